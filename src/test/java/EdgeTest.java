import java.util.ArrayList;
import java.util.Arrays;
import java.util.List;

/**
 * Each argument of each call: the smallest and the greatest that the document allows, just below
 * and just above them, as far out as a number can be, and several that are wrong at once.
 */
public final class EdgeTest extends Checks {
  private static final int[] STORES = {0, 1, 2};

  /** A new store, one with some nodes, and one in which TOTAL is 400. */
  private static Both store(int which) {
    if (which == 0) {
      return new Both();
    }
    return which == 1 ? Both.mixed(3, 30) : Both.mixed(11, 150);
  }

  /** What an argument can be at most; how many bits there are depends on the first variable. */
  private static int greatest(Call call, int i, int[] p) {
    return call.kinds[i] == Kind.BITS ? 10 - Math.min(9, Math.max(0, p[1])) : call.kinds[i].greatest;
  }

  /** Arguments that are all allowed, from the midst of what is. */
  private static int[] allowed(Call call, int shift) {
    int[] p = new int[call.kinds.length];
    for (int i = 0; i < p.length; i++) {
      Kind kind = call.kinds[i];
      int room = kind == Kind.NUMBER ? 40 : greatest(call, i, p) - kind.smallest + 1;
      p[i] = kind.smallest + (room / 2 + shift * (i + 1)) % room;
    }
    return p;
  }

  private static boolean isEdgeless(Kind kind) {
    return kind == Kind.FLAG;
  }

  private static void allowedEdges(Call call, int i) {
    for (int which : STORES) {
      Both both = store(which);
      for (int shift = 0; shift < 3; shift++) {
        int[] p = allowed(call, shift);
        for (int edge : new int[] {call.kinds[i].smallest, greatest(call, i, p)}) {
          p[i] = edge;
          if (call == Call.BELOW) {
            p[2] = Math.min(p[2], 10 - p[1]);
          }
          String told = both.call(call, p);
          boolean refused = call == Call.PRESS && told.equals("throws." + STATE.getName());
          due(call + " " + Arrays.toString(p) + " throws", told.startsWith("throws") && !refused, false);
        }
      }
      both.sameState(call + " at the edges of what it allows");
    }
  }

  private static void thrown(Both both, Call call, int[] p, Class<?> due) {
    String before = stateOf(both.fast);
    String what = call + " " + Arrays.toString(p);
    due(what, call.on(both.fast, p), "throws." + due.getName());
    unchanged(what, both.fast, before);
  }

  private static List<Integer> wrongOnes(Call call, int i, int[] p) {
    int most = greatest(call, i, p);
    List<Integer> all = new ArrayList<>(List.of(call.kinds[i].smallest - 1, Integer.MIN_VALUE));
    if (most < Integer.MAX_VALUE) {
      all.add(most + 1);
      all.add(Integer.MAX_VALUE);
    }
    return all;
  }

  private static void wrongEdges(Call call, int i) {
    for (int which : STORES) {
      Both both = store(which);
      for (int shift = 0; shift < 3; shift++) {
        int[] p = allowed(call, shift);
        for (int wrong : wrongOnes(call, i, p)) {
          int[] q = p.clone();
          q[i] = wrong;
          thrown(both, call, q, call.kinds[i].isIndex ? INDEX : ARGUMENT);
        }
      }
    }
  }

  /** Every way of having each argument right, too small or too great, with two wrong or more. */
  private static void severalAtOnce(Call call) {
    Both both = store(1);
    int many = call.kinds.length;
    int ways = (int) Math.pow(3, many);
    for (int way = 0; way < ways; way++) {
      int[] p = allowed(call, 1);
      int[] q = p.clone();
      int wrong = 0;
      boolean isIndex = false;
      int rest = way;
      for (int i = 0; i < many; i++, rest /= 3) {
        Kind kind = call.kinds[i];
        boolean tooGreat = rest % 3 == 2 && greatest(call, i, p) < Integer.MAX_VALUE;
        if (isEdgeless(kind) || rest % 3 == 0 || rest % 3 == 2 && !tooGreat) {
          continue;
        }
        q[i] = tooGreat ? greatest(call, i, p) + 1 : kind.smallest - 1;
        wrong++;
        isIndex |= kind.isIndex;
      }
      if (wrong > 1) {
        thrown(both, call, q, isIndex ? INDEX : ARGUMENT);
      }
    }
  }

  /** The slot of b has no models, and another slot, or that of b itself, does not exist. */
  private static void pressOfNoSlot() {
    Both both = store(1);
    for (int wrong : new int[] {-1, 12}) {
      thrown(both, Call.PRESS, new int[] {wrong, 1, 11}, INDEX);
      thrown(both, Call.PRESS, new int[] {1, wrong, 11}, INDEX);
      thrown(both, Call.PRESS, new int[] {wrong, wrong, 11}, INDEX);
      thrown(both, Call.PRESS, new int[] {1, 1, wrong}, INDEX);
    }
    thrown(both, Call.PRESS, new int[] {1, 1, 11}, STATE);
    thrown(both, Call.PRESS, new int[] {11, 11, 11}, STATE);
  }

  /** How many bits are allowed, for each first variable: 1 to 10 - first. */
  private static void bitsOfEachFirst() {
    Both both = store(1);
    for (int first = 0; first < 10; first++) {
      both.call(Call.BELOW, 11, first, 1, 1);
      String one = both.call(Call.BELOW, 11, first, 10 - first, 1);
      due("BELOW with the most bits from " + first, one, String.valueOf(10 - first));
      thrown(both, Call.BELOW, new int[] {11, first, 0, 1}, ARGUMENT);
      thrown(both, Call.BELOW, new int[] {11, first, 11 - first, 1}, ARGUMENT);
      thrown(both, Call.BELOW, new int[] {11, first, 11 - first, 1025}, ARGUMENT);
    }
    for (int first : new int[] {-1, 10}) {
      thrown(both, Call.BELOW, new int[] {11, first, 10 - first, 1}, INDEX);
      thrown(both, Call.BELOW, new int[] {11, first, 11 - first, 1025}, INDEX);
      thrown(both, Call.BELOW, new int[] {11, first, 0, -1}, INDEX);
    }
  }

  public static void main(String[] args) {
    for (Call call : Call.values()) {
      for (int i = 0; i < call.kinds.length; i++) {
        int at = i;
        if (!isEdgeless(call.kinds[i])) {
          String what = call + ", argument " + i + ", " + call.kinds[i];
          sentence(what + ": the smallest and the greatest", () -> allowedEdges(call, at));
          sentence(what + ": just below, just above, far out", () -> wrongEdges(call, at));
        }
      }
      if (call.kinds.length > 1 && !(call.kinds.length == 2 && isEdgeless(call.kinds[1]))) {
        sentence(call + ": several exceptions apply", () -> severalAtOnce(call));
      }
    }
    sentence("PRESS: b has no models, and there is no such slot", EdgeTest::pressOfNoSlot);
    sentence("BELOW: bits is not 1 to 10 - first", EdgeTest::bitsOfEachFirst);
    end("EdgeTest");
  }
}
