/**
 * Long runs of calls, ordinary ones and wrong ones, on Trellis and on SlowTrellis side by side:
 * each answer (or exception) has to be the same, and every state has to be the same behind it.
 */
public final class RunsTest {
  private static final int GROWING = 90;
  private static final String[] NAMES = {
    "constant", "variable", "apply", "choose", "put", "compose", "quantify", "meet", "exchange",
    "press", "atLeast", "below", "holds", "models", "model", "support", "compare", "trend",
    "isSymmetric", "influence", "setCost", "cheapest", "size", "total", "nodesAt", "shared", "ways",
    "depth", "leastSize", "variableAt", "swap", "sift", "settle", "wouldSwap", "wouldSift",
    "meanSize", "digest"
  };
  private static int wrong = 0;
  private static long seed;
  private static int refusedPuts = 0;
  private static int refusedSwaps = 0;
  private static int atLimit = 0;
  private static int justAbove = 0;
  private static int settlesThatHelped = 0;
  private static int siftsThatRefused = 0;

  /** Numbers that look mixed and are the same each time. */
  private static int pick(int bound) {
    seed = seed * 6364136223846793005L + 1442695040888963407L;
    return (int) ((seed >>> 33) % bound);
  }

  /** Mostly 0 to bound - 1, now and then just outside, or far outside. */
  private static int near(int bound, boolean mayBeWrong) {
    if (mayBeWrong && pick(60) == 0) {
      int[] odd = {-1, bound, bound + 1, Integer.MIN_VALUE, Integer.MAX_VALUE, -bound};
      return odd[pick(odd.length)];
    }
    return pick(bound);
  }

  private static String outcome(boolean slow, Trellis t, SlowTrellis s, int m, int[] p) {
    try {
      return slow ? slowly(s, m, p) : fast(t, m, p);
    } catch (RuntimeException e) {
      return "throws." + e.getClass().getSimpleName();
    }
  }

  private static String fast(Trellis t, int m, int[] p) {
    switch (m) {
      case 0: return "" + t.constant(p[0], p[4] == 1);
      case 1: return "" + t.variable(p[0], p[5]);
      case 2: return "" + t.apply(p[0], p[1], p[2], p[7]);
      case 3: return "" + t.choose(p[0], p[1], p[2], p[3]);
      case 4: return "" + t.put(p[0], p[1], p[5], p[4] == 1);
      case 5: return "" + t.compose(p[0], p[1], p[5], p[2]);
      case 6: return "" + t.quantify(p[0], p[1], p[8], p[9]);
      case 7: return "" + t.meet(p[0], p[1], p[2], p[8]);
      case 8: return "" + t.exchange(p[0], p[1], p[5], p[6]);
      case 9: return "" + t.press(p[0], p[1], p[2]);
      case 10: return "" + t.atLeast(p[0], p[8], p[10]);
      case 11: return "" + t.below(p[0], p[5], p[11], p[12]);
      case 12: return "" + (t.holds(p[1], p[13]) ? 1 : 0);
      case 13: return "" + t.models(p[1]);
      case 14: return "" + t.model(p[1], p[14]);
      case 15: return "" + t.support(p[1]);
      case 16: return "" + t.compare(p[1], p[2]);
      case 17: return "" + t.trend(p[1], p[5]);
      case 18: return "" + (t.isSymmetric(p[1], p[5], p[6]) ? 1 : 0);
      case 19: return "" + t.influence(p[1], p[5]);
      case 20: return "" + t.setCost(p[5], p[15]);
      case 21: return "" + t.cheapest(p[1]);
      case 22: return "" + t.size(p[1]);
      case 23: return "" + t.total();
      case 24: return "" + t.nodesAt(p[5]);
      case 25: return "" + t.shared(p[1], p[2]);
      case 26: return "" + t.ways(p[1]);
      case 27: return "" + t.depth(p[1]);
      case 28: return "" + t.leastSize(p[1]);
      case 29: return "" + t.variableAt(p[5]);
      case 30: return "" + t.swap(p[16]);
      case 31: return "" + t.sift(p[5]);
      case 32: return "" + t.settle();
      case 33: return "" + t.wouldSwap(p[16]);
      case 34: return "" + t.wouldSift(p[5]);
      case 35: return "" + t.meanSize();
      default: return "" + t.digest();
    }
  }

  private static String slowly(SlowTrellis t, int m, int[] p) {
    switch (m) {
      case 0: return "" + t.constant(p[0], p[4] == 1);
      case 1: return "" + t.variable(p[0], p[5]);
      case 2: return "" + t.apply(p[0], p[1], p[2], p[7]);
      case 3: return "" + t.choose(p[0], p[1], p[2], p[3]);
      case 4: return "" + t.put(p[0], p[1], p[5], p[4] == 1);
      case 5: return "" + t.compose(p[0], p[1], p[5], p[2]);
      case 6: return "" + t.quantify(p[0], p[1], p[8], p[9]);
      case 7: return "" + t.meet(p[0], p[1], p[2], p[8]);
      case 8: return "" + t.exchange(p[0], p[1], p[5], p[6]);
      case 9: return "" + t.press(p[0], p[1], p[2]);
      case 10: return "" + t.atLeast(p[0], p[8], p[10]);
      case 11: return "" + t.below(p[0], p[5], p[11], p[12]);
      case 12: return "" + t.holds(p[1], p[13]);
      case 13: return "" + t.models(p[1]);
      case 14: return "" + t.model(p[1], p[14]);
      case 15: return "" + t.support(p[1]);
      case 16: return "" + t.compare(p[1], p[2]);
      case 17: return "" + t.trend(p[1], p[5]);
      case 18: return "" + t.isSymmetric(p[1], p[5], p[6]);
      case 19: return "" + t.influence(p[1], p[5]);
      case 20: return "" + t.setCost(p[5], p[15]);
      case 21: return "" + t.cheapest(p[1]);
      case 22: return "" + t.size(p[1]);
      case 23: return "" + t.total();
      case 24: return "" + t.nodesAt(p[5]);
      case 25: return "" + t.shared(p[1], p[2]);
      case 26: return "" + t.ways(p[1]);
      case 27: return "" + t.depth(p[1]);
      case 28: return "" + t.leastSize(p[1]);
      case 29: return "" + t.variableAt(p[5]);
      case 30: return "" + t.swap(p[16]);
      case 31: return "" + t.sift(p[5]);
      case 32: return "" + t.settle();
      case 33: return "" + t.wouldSwap(p[16]);
      case 34: return "" + t.wouldSift(p[5]);
      case 35: return "" + t.meanSize();
      default: return "" + t.digest();
    }
  }

  /** Arguments for any method: see fast() for which one takes which. */
  private static int[] arguments(boolean mayBeWrong) {
    boolean w = mayBeWrong;
    int[] p = new int[17];
    for (int i = 0; i < 4; i++) {
      p[i] = near(12, w);
    }
    p[4] = pick(2);
    p[5] = near(10, w);
    p[6] = near(10, w);
    p[7] = near(16, w);
    p[8] = pick(3) == 0 ? near(1024, w) : near(1024, w) & near(1024, w);
    p[9] = near(3, w);
    p[10] = near(12, w);
    int room = 10 - Math.floorMod(p[5], 10);
    p[11] = pick(40) == 0 && w ? near(12, w) : 1 + pick(room);
    p[12] = pick(3) == 0 ? near(1025, w) : pick(2 << (p[11] & 7));
    p[13] = near(1024, w);
    p[14] = near(pick(2) == 0 ? 1100 : 30, w);
    p[15] = pick(3) == 0 ? near(100, w) : pick(4);
    p[16] = near(9, w);
    return p;
  }

  private static int pickMethod(int style, int call) {
    int r = pick(100);
    if (style == 0) {
      return pick(36);
    }
    if (style == 1) {
      return r < 50 ? pick(12) : r < 75 ? 30 + pick(5) : pick(36);
    }
    // Functions with many nodes: mixed by few operations, then ordered.
    if (call < GROWING) {
      return r < 50 ? 3 : r < 75 ? 2 : 8;
    }
    return r < 30 ? 30 + pick(5) : r < 50 ? pick(12) : r < 80 ? 2 + pick(2) : pick(37);
  }

  /** The variables in the slots, one each: from these much can be mixed. */
  private static void startWithVariables(Trellis t, SlowTrellis s) {
    for (int k = 0; k < 10; k++) {
      t.variable(k, k);
      s.variable(k, k);
    }
  }

  private static void report(int run, int call, int m, int[] p, String got, String due) {
    wrong++;
    StringBuilder s = new StringBuilder();
    for (int v : p) {
      s.append(v).append(' ');
    }
    if (wrong < 20) {
      System.out.println("run " + run + " call " + call + ": " + NAMES[m] + " with " + s
          + "answered " + got + ", due is " + due);
    }
  }

  private static void countOutcome(SlowTrellis slow, int m, String due) {
    boolean refused = due.equals("-1");
    if (m < 12) {
      refusedPuts += refused ? 1 : 0;
    }
    if (m == 30) {
      refusedSwaps += refused ? 1 : 0;
    }
    if ((m < 12 || m == 30) && !due.startsWith("throws")) {
      atLimit += slow.lastTotal == 400 ? 1 : 0;
      justAbove += slow.lastTotal == 401 ? 1 : 0;
    }
    if (m == 32 && !due.equals("0")) {
      settlesThatHelped++;
    }
  }

  private static void run(int number, int style, int calls) {
    seed = 1000003L * number + 17;
    Trellis t = new Trellis();
    SlowTrellis s = new SlowTrellis();
    if (style == 2) {
      startWithVariables(t, s);
    }
    for (int call = 0; call < calls && wrong == 0; call++) {
      int m = pickMethod(style, call);
      int[] p = arguments(style != 2);
      if (style == 2 && (call < GROWING || m < 4)) {
        p[m == 3 ? 2 : 1] = p[0];
        p[7] = 6;
      }
      String due = outcome(true, t, s, m, p);
      String got = outcome(false, t, s, m, p);
      if (!got.equals(due)) {
        report(number, call, m, p, got, due);
      }
      countOutcome(s, m, due);
      if (m < 12 || m >= 30) {
        if (!stateOf(t).equals(stateOf(s))) {
          report(number, call, m, p, "another state", "the same state");
        }
      }
    }
    if (t.digest() != s.digest()) {
      report(number, calls, 36, new int[0], "" + t.digest(), "" + s.digest());
    }
    siftsThatRefused += s.siftsThatRefused;
  }

  private static String stateOf(Trellis t) {
    StringBuilder b = new StringBuilder();
    b.append(t.total()).append(' ').append(t.meanSize());
    for (int k = 0; k < 10; k++) {
      b.append(' ').append(t.variableAt(k)).append(' ').append(t.nodesAt(k));
    }
    for (int k = 0; k < 12; k++) {
      for (int x = 0; x < 1024; x++) {
        b.append(t.holds(k, x) ? '1' : '0');
      }
    }
    return b.toString();
  }

  private static String stateOf(SlowTrellis t) {
    StringBuilder b = new StringBuilder();
    b.append(t.total()).append(' ').append(t.meanSize());
    for (int k = 0; k < 10; k++) {
      b.append(' ').append(t.variableAt(k)).append(' ').append(t.nodesAt(k));
    }
    for (int k = 0; k < 12; k++) {
      for (int x = 0; x < 1024; x++) {
        b.append(t.holds(k, x) == 1 ? '1' : '0');
      }
    }
    return b.toString();
  }

  private static void happened(String what, int times) {
    System.out.println("  " + what + ": " + times);
    if (times == 0) {
      wrong++;
      System.out.println("no run has come to this: " + what);
    }
  }

  public static void main(String[] args) {
    int runs = args.length > 0 ? Integer.parseInt(args[0]) : 24;
    for (int n = 0; n < runs; n++) {
      run(n, n % 3, 200);
    }
    happened("puts refused", refusedPuts);
    happened("swaps refused", refusedSwaps);
    happened("TOTAL just 400", atLimit);
    happened("TOTAL would be just 401", justAbove);
    happened("sifts with levels that do not count", siftsThatRefused);
    happened("settles that helped", settlesThatHelped);
    System.out.println(wrong == 0 ? "all runs agree" : wrong + " answers are not as due");
    if (wrong != 0) {
      System.exit(1);
    }
  }
}
