import java.util.Arrays;
import java.util.HashMap;
import java.util.Map;

/** A Trellis and a SlowTrellis side by side: each call goes to both, and both have to agree. */
final class Both {
  private static final Map<String, SlowTrellis> MIXED = new HashMap<>();

  final Trellis fast = new Trellis();
  final SlowTrellis slow;

  Both() {
    this(new SlowTrellis());
  }

  private Both(SlowTrellis slow) {
    this.slow = slow;
  }

  /**
   * Ten variables in the slots 0 to 9, mixed by so many calls, the same ones each time for the same
   * seed: many nodes, up to TOTAL 400. The slots 10 and 11 tell 0.
   */
  static Both mixed(long seed, int calls) {
    return mixedWithout(-1, seed, calls);
  }

  /** The same, but that no function depends on one of the variables. */
  static Both mixedWithout(int variable, long seed, int calls) {
    SlowTrellis slow = MIXED.computeIfAbsent(variable + " " + seed + " " + calls, key -> {
      SlowTrellis made = new SlowTrellis();
      mix(variable, seed, calls, (call, p) -> call.on(made, p));
      return made;
    });
    Both both = new Both(slow.copy());
    mix(variable, seed, calls, (call, p) -> call.on(both.fast, p));
    return both;
  }

  private interface Taker {
    void take(Call call, int... p);
  }

  private static void mix(int without, long first, int calls, Taker taker) {
    for (int v = 0; v < 10; v++) {
      if (v != without) {
        taker.take(Call.VARIABLE, v, v);
      }
    }
    long seed = first;
    int[] p = new int[4];
    for (int n = 0; n < calls; n++) {
      for (int i = 0; i < 4; i++) {
        seed = seed * 6364136223846793005L + 1442695040888963407L;
        p[i] = (int) ((seed >>> 33) % 10);
      }
      if (n % 4 < 2) {
        taker.take(Call.CHOOSE, p[0], p[1], p[0], p[2]);
      } else if (n % 4 == 2) {
        taker.take(Call.APPLY, p[0], p[0], p[1], 6);
      } else if (p[1] != without && p[2] != without) {
        taker.take(Call.EXCHANGE, p[0], p[0], p[1], p[2]);
      }
    }
  }

  /** What is due, by the slow one; Checks counts what the fast one answers otherwise. */
  String call(Call call, int... p) {
    String due = call.on(slow, p);
    Checks.due(call + " " + Arrays.toString(p), call.on(fast, p), due);
    return due;
  }

  void sameState(String what) {
    Checks.due(what + ": the state", Checks.stateOf(fast), slow.state());
  }
}
