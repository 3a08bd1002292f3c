import java.util.function.LongSupplier;

/** What the tests have in common: what is due, what is refused, and that nothing is changed. */
abstract class Checks {
  static final int[] NO_SLOTS = {-1, 12, 13, Integer.MIN_VALUE, Integer.MAX_VALUE};
  static final int[] NO_VARIABLES = {-1, 10, 11, 32, Integer.MIN_VALUE, Integer.MAX_VALUE};
  static final int[] NO_SETS = {-1, 1024, Integer.MIN_VALUE, Integer.MAX_VALUE};
  static final Class<?> INDEX = IndexOutOfBoundsException.class;
  static final Class<?> ARGUMENT = IllegalArgumentException.class;
  static final Class<?> STATE = IllegalStateException.class;
  private static final int TOLD = 40;
  private static int wrong = 0;
  private static int checks = 0;
  private static int sentences = 0;

  interface Rule {
    boolean tells(int x);
  }

  private static void fault(String text) {
    wrong++;
    if (wrong <= TOLD) {
      System.out.println(text);
    }
  }

  static void due(String what, long got, long want) {
    checks++;
    if (got != want) {
      fault(what + " answered " + got + ", due is " + want);
    }
  }

  static void due(String what, boolean got, boolean want) {
    due(what, got ? 1 : 0, want ? 1 : 0);
  }

  static void due(String what, String got, String want) {
    checks++;
    if (!got.equals(want)) {
      fault(what + " answered " + got + ", due is " + want);
    }
  }

  static int faults() {
    return wrong;
  }

  /** Everything that can be asked; the costs are told by setting them, and set back. */
  static String stateOf(Trellis t) {
    StringBuilder b = new StringBuilder();
    b.append(t.total()).append(' ').append(t.meanSize());
    for (int k = 0; k < 10; k++) {
      int cost = t.setCost(k, 0);
      t.setCost(k, cost);
      b.append(' ').append(t.variableAt(k)).append(' ').append(t.nodesAt(k)).append(' ').append(cost);
    }
    for (int s = 0; s < 12; s++) {
      b.append(' ').append(t.size(s)).append(' ').append(t.support(s)).append(' ');
      for (int x = 0; x < 1024; x++) {
        b.append(t.holds(s, x) ? '1' : '0');
      }
    }
    return b.append(' ').append(t.digest()).toString();
  }

  static void refuses(String what, Trellis t, Class<?> kind, LongSupplier call) {
    String before = stateOf(t);
    String got = "nothing";
    try {
      call.getAsLong();
    } catch (RuntimeException e) {
      got = e.getClass().getName();
    }
    due(what + " throws", got, kind.getName());
    unchanged(what, t, before);
  }

  static void unchanged(String what, Trellis t, String before) {
    checks++;
    if (!stateOf(t).equals(before)) {
      fault(what + " has changed something");
    }
  }

  static void tells(String what, Trellis t, int slot, Rule rule) {
    checks++;
    for (int x = 0; x < 1024; x++) {
      if (t.holds(slot, x) != rule.tells(x)) {
        fault(what + " tells another thing for " + x);
        return;
      }
    }
  }

  static int bit(int x, int v) {
    return (x >> v) & 1;
  }

  static boolean one(int x, int v) {
    return bit(x, v) == 1;
  }

  // ---- functions to ask about

  /** The slot tells 1 for this assignment alone; the helping slot tells 0 then. */
  static void single(Trellis t, int slot, int help, int x) {
    t.constant(slot, true);
    for (int v = 0; v < 10; v++) {
      t.variable(help, v);
      t.apply(slot, slot, help, one(x, v) ? 8 : 4);
    }
    t.constant(help, false);
  }

  /** The slot tells 1 for two assignments; both helping slots tell 0 then. */
  static void couple(Trellis t, int slot, int help, int x, int y) {
    single(t, slot, help, x);
    single(t, help + 1, help, y);
    t.apply(slot, slot, help + 1, 14);
    t.constant(help + 1, false);
  }

  /** The slot tells 1 where an odd number of the variables is 1. */
  static void parity(Trellis t, int slot, int help) {
    t.constant(slot, false);
    for (int v = 0; v < 10; v++) {
      t.variable(help, v);
      t.apply(slot, slot, help, 6);
    }
    t.constant(help, false);
  }

  /** The slot tells the opposite. */
  static void turnOver(Trellis t, int slot) {
    t.apply(slot, slot, slot, 1);
  }

  /** The checks that stand for one sentence of the document. */
  static void sentence(String text, Runnable test) {
    int faults = wrong;
    int before = checks;
    test.run();
    if (wrong > faults) {
      System.out.println("DOES NOT HOLD: " + text);
    }
    if (checks == before) {
      fault("no check stands for: " + text);
    }
    sentences++;
  }

  /** Ends a test: the exit code is 1 if an answer was not the one that is due. */
  static void end(String test) {
    System.out.println("  " + test + ": " + (sentences > 0 ? sentences + " sentences, " : "")
        + checks + " checks, " + (wrong == 0 ? "all hold" : wrong + " answers are not as due"));
    if (wrong != 0) {
      System.exit(1);
    }
  }
}
