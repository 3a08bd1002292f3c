/**
 * Long runs of calls, ordinary ones and wrong ones, on Trellis and on SlowTrellis side by side:
 * each answer (or exception) has to be the same, and every state has to be the same behind it.
 */
public final class RunsTest extends Checks {
  private static final int GROWING = 90;
  private static long seed;
  private static int refusedPuts = 0;
  private static int refusedSwaps = 0;
  private static int atLimit = 0;
  private static int justAbove = 0;
  private static int settlesThatHelped = 0;
  private static int siftsThatRefused = 0;

  /** Numbers that look mixed and are the same each time. */
  private static int pick(int bound) {
    seed = seed * 6364136223846793005L + 1442695040888963407L;
    return (int) ((seed >>> 33) % bound);
  }

  /** Mostly 0 to bound - 1, now and then just outside, or far outside. */
  private static int near(int bound, boolean mayBeWrong) {
    if (mayBeWrong && pick(60) == 0) {
      int[] odd = {-1, bound, bound + 1, Integer.MIN_VALUE, Integer.MAX_VALUE, -bound};
      return odd[pick(odd.length)];
    }
    return pick(bound);
  }

  /** The arguments of one call: its slots are the first ones of p, or for asking the second on. */
  private static int[] argumentsOf(Call call, int[] p) {
    int slot = call.makes() ? 0 : 1;
    int variable = 5;
    int[] args = new int[call.kinds.length];
    for (int i = 0; i < args.length; i++) {
      switch (call.kinds[i]) {
        case SLOT -> args[i] = p[slot++];
        case VARIABLE, LEVEL -> args[i] = p[variable++];
        case FLAG -> args[i] = p[4];
        case TABLE -> args[i] = p[7];
        case SET -> args[i] = p[8];
        case WAY -> args[i] = p[9];
        case LEAST -> args[i] = p[10];
        case BITS -> args[i] = p[11];
        case THAN -> args[i] = p[12];
        case ASSIGNMENT -> args[i] = p[13];
        case NUMBER -> args[i] = p[14];
        case COST -> args[i] = p[15];
        default -> args[i] = p[16];
      }
    }
    return args;
  }

  /** Arguments for any method: see argumentsOf() for which one takes which. */
  private static int[] arguments(boolean mayBeWrong) {
    boolean w = mayBeWrong;
    int[] p = new int[17];
    for (int i = 0; i < 4; i++) {
      p[i] = near(12, w);
    }
    p[4] = pick(2);
    p[5] = near(10, w);
    p[6] = near(10, w);
    p[7] = near(16, w);
    p[8] = pick(3) == 0 ? near(1024, w) : near(1024, w) & near(1024, w);
    p[9] = near(3, w);
    p[10] = near(12, w);
    int room = 10 - Math.floorMod(p[5], 10);
    p[11] = pick(40) == 0 && w ? near(12, w) : 1 + pick(room);
    p[12] = pick(3) == 0 ? near(1025, w) : pick(2 << (p[11] & 7));
    p[13] = near(1024, w);
    p[14] = near(pick(2) == 0 ? 1100 : 30, w);
    p[15] = pick(3) == 0 ? near(100, w) : pick(4);
    p[16] = near(9, w);
    return p;
  }

  private static int pickMethod(int style, int call) {
    int r = pick(100);
    if (style == 0) {
      return pick(36);
    }
    if (style == 1) {
      return r < 50 ? pick(12) : r < 75 ? 30 + pick(5) : pick(36);
    }
    // Functions with many nodes: mixed by few operations, then ordered.
    if (call < GROWING) {
      return r < 50 ? 3 : r < 75 ? 2 : 8;
    }
    return r < 30 ? 30 + pick(5) : r < 50 ? pick(12) : r < 80 ? 2 + pick(2) : pick(37);
  }

  /** The variables in the slots, one each: from these much can be mixed. */
  private static void startWithVariables(Both both) {
    for (int k = 0; k < 10; k++) {
      both.call(Call.VARIABLE, k, k);
    }
  }

  private static void countOutcome(SlowTrellis slow, int m, String due) {
    boolean refused = due.equals("-1");
    if (m < 12) {
      refusedPuts += refused ? 1 : 0;
    }
    if (m == 30) {
      refusedSwaps += refused ? 1 : 0;
    }
    if ((m < 12 || m == 30) && !due.startsWith("throws")) {
      atLimit += slow.lastTotal == 400 ? 1 : 0;
      justAbove += slow.lastTotal == 401 ? 1 : 0;
    }
    if (m == 32 && !due.equals("0")) {
      settlesThatHelped++;
    }
  }

  private static void run(int number, int style, int calls) {
    seed = 1000003L * number + 17;
    Both both = new Both();
    if (style == 2) {
      startWithVariables(both);
    }
    for (int n = 0; n < calls && faults() == 0; n++) {
      int m = pickMethod(style, n);
      int[] p = arguments(style != 2);
      if (style == 2 && (n < GROWING || m < 4)) {
        p[m == 3 ? 2 : 1] = p[0];
        p[7] = 6;
      }
      Call call = Call.values()[m];
      String due = both.call(call, argumentsOf(call, p));
      countOutcome(both.slow, m, due);
      if (m < 12 || m >= 30) {
        both.sameState("run " + number + " behind the call " + n);
      }
    }
    both.call(Call.DIGEST);
    siftsThatRefused += both.slow.siftsThatRefused;
  }

  private static void happened(String what, int times) {
    System.out.println("  " + what + ": " + times);
    due("whether a run has come to this: " + what, times > 0, true);
  }

  public static void main(String[] args) {
    int runs = args.length > 0 ? Integer.parseInt(args[0]) : 24;
    for (int n = 0; n < runs; n++) {
      run(n, n % 3, 200);
    }
    happened("puts refused", refusedPuts);
    happened("swaps refused", refusedSwaps);
    happened("TOTAL just 400", atLimit);
    happened("TOTAL would be just 401", justAbove);
    happened("sifts with levels that do not count", siftsThatRefused);
    happened("settles that helped", settlesThatHelped);
    end("RunsTest");
  }
}
