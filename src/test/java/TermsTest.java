import java.util.ArrayList;
import java.util.Arrays;
import java.util.List;

/** The sentences of "What it is" and "Terms", each with checks of its own. */
public final class TermsTest extends Checks {
  private static final int[] SOME = {0, 1, 2, 31, 32, 63, 64, 341, 511, 512, 682, 1022, 1023};

  // ---- what it is

  /** The 512th call is answered as the first ones are, also if each one is a dear one. */
  private static void callsTo512() {
    Trellis t = new Trellis();
    for (int calls = 0; calls < 510; calls++) {
      switch (calls % 4) {
        case 0 -> t.settle();
        case 1 -> t.digest();
        case 2 -> t.wouldSift(calls % 10);
        default -> t.atLeast(calls % 12, 1023, 1 + calls % 10);
      }
    }
    due("the 511th call", t.atLeast(11, 1023, 5), 30);
    due("the 512th call", t.models(11), 638);
    long due = Both.mixed(11, 150).slow.digest();
    Trellis full = Both.mixed(11, 150).fast;
    for (int calls = 160; calls < 511; calls++) {
      full.wouldSift(calls % 10);
    }
    due("the 512th call on a full store", full.digest(), due);
  }

  // ---- 1 FUNCTIONS

  private static void tenVariables() {
    Trellis t = new Trellis();
    for (int v = 0; v < 10; v++) {
      due("VARIABLE " + v, t.variable(v, v), 1);
    }
    for (int v = 0; v < 10; v++) {
      for (int w = 0; w < 10; w++) {
        due("VARIABLE " + v + " and " + w + " are two", t.compare(v, w), v == w ? 0 : 4);
      }
    }
    due("ten of them", t.total(), 10);
  }

  private static void assignments() {
    for (int x : SOME) {
      Trellis t = new Trellis();
      single(t, 0, 1, x);
      due("the number of an assignment, by model", t.model(0, 0), x);
      due("the number of an assignment, by cheapest", t.cheapest(0), x);
      for (int y : SOME) {
        due("the number of an assignment, by holds", t.holds(0, y), x == y);
      }
    }
    Trellis t = new Trellis();
    for (int v = 0; v < 10; v++) {
      t.variable(0, v);
      for (int x = 0; x < 1024; x++) {
        due("2^v is in the sum if v is 1", t.holds(0, x), x / (1 << v) % 2 == 1);
      }
    }
  }

  private static void setsOfVariables() {
    Trellis t = new Trellis();
    parity(t, 0, 1);
    for (int set : SOME) {
      t.quantify(1, 0, set, 0);
      due("a quantified set", t.support(1), set == 0 ? 1023 : 0);
      t.atLeast(2, set, 1);
      due("a counted set", t.support(2), set);
      single(t, 3, 4, 1023);
      t.meet(3, 3, 3, set);
      due("a set in which two meet", t.support(3), 1023 - set);
    }
    for (int v = 0; v < 10; v++) {
      t.variable(1, v);
      t.atLeast(2, 1 << v, 1);
      due("2^v is the set of v alone", t.compare(1, 2), 0);
      due("2^v is the set of v alone", t.support(1), 1 << v);
    }
  }

  private static void modelsAreWhereItTells1() {
    for (int x : SOME) {
      Trellis t = new Trellis();
      t.below(0, 0, 10, x);
      due("so many models", t.models(0), x);
      due("the last one", t.model(0, Math.max(0, x - 1)), x - 1);
      due("no more", t.model(0, x), -1);
      due("told 1 there", x > 0 && t.holds(0, x - 1), x > 0);
      due("told 0 there", t.holds(0, x), false);
    }
  }

  private static void twelveSlots() {
    Trellis t = new Trellis();
    for (int slot = 0; slot < 12; slot++) {
      t.below(slot, 0, 10, 40 * slot + 7);
    }
    for (int slot = 0; slot < 12; slot++) {
      due("each slot has a function of its own", t.models(slot), 40 * slot + 7);
    }
    for (int slot = 0; slot < 12; slot++) {
      t.constant(slot, true);
      for (int other = 0; other < 12; other++) {
        due("the others stay", t.models(other), other > slot ? 40 * other + 7 : 1024);
      }
    }
  }

  private static void atFirstAllTell0() {
    Trellis t = new Trellis();
    for (int slot = 0; slot < 12; slot++) {
      due("at first", t.models(slot), 0);
      tells("at first", t, slot, x -> false);
    }
  }

  /** Two assignments that differ in the variable alone are enough, and all pairs are too. */
  private static void dependence() {
    for (int x : SOME) {
      Trellis t = new Trellis();
      single(t, 0, 1, x);
      due("by one pair for each variable", t.support(0), 1023);
      for (int v = 0; v < 10; v++) {
        due("by one pair", t.influence(0, v), 2);
        couple(t, 1, 2, x, x ^ 1 << v);
        due("both of a pair are the same", t.support(1), 1023 - (1 << v));
        turnOver(t, 1);
        due("both of a pair are the same, turned over", t.support(1), 1023 - (1 << v));
      }
    }
    Trellis t = new Trellis();
    parity(t, 0, 1);
    due("by all pairs", t.support(0), 1023);
    due("by none", t.support(1), 0);
    t.constant(1, true);
    due("by none", t.support(1), 0);
  }

  private static void putToAValue() {
    for (int v = 0; v < 10; v++) {
      int k = v;
      Trellis t = new Trellis();
      for (int x : SOME) {
        single(t, 0, 1, x);
        for (int value = 0; value < 2; value++) {
          int put = value;
          t.put(2, 0, v, value == 1);
          tells("one model, put " + v + " to " + value, t, 2,
              y -> (put == 1 ? y | 1 << k : y & ~(1 << k)) == x);
          due("either both of a pair or none", t.models(2), bit(x, v) == value ? 2 : 0);
        }
      }
    }
  }

  // ---- 2 DIAGRAMS

  private static void levelsAtFirst() {
    Trellis t = new Trellis();
    for (int level = 0; level < 10; level++) {
      due("at first the variable k at the level k", t.variableAt(level), level);
    }
  }

  private static void everyLevelHasOneVariable() {
    for (long seed = 1; seed <= 6; seed++) {
      Trellis t = Both.mixed(seed, 30).fast;
      for (int n = 0; n < 30; n++) {
        switch (n % 5) {
          case 0 -> t.swap(n % 9);
          case 1 -> t.sift(n % 10);
          case 2 -> t.wouldSift((n + 3) % 10);
          case 3 -> t.wouldSwap((n + 5) % 9);
          default -> t.settle();
        }
        int seen = 0;
        for (int level = 0; level < 10; level++) {
          seen |= 1 << t.variableAt(level);
        }
        due("each level has one of the ten", seen, 1023);
      }
    }
  }

  /** The twelve functions of the last two levels that depend on the upper one: no more there. */
  private static void mostNodesOfALevel() {
    Trellis t = new Trellis();
    t.variable(0, 8);
    t.variable(1, 9);
    int[] tables = {1, 2, 4, 6, 7, 8, 9, 11, 13, 14};
    for (int i = 0; i < tables.length; i++) {
      t.apply(2 + i, 0, 1, tables[i]);
    }
    t.apply(1, 0, 0, 1);
    due("the level 8 has all that it can have", t.nodesAt(8), 12);
    due("the level 9 has all that it can have", t.nodesAt(9), 2);
    due("TOTAL", t.total(), 14);
    t.swap(8);
    due("the variable 9 above: ten of them depend on it", t.nodesAt(8), 10);
    due("the variable 8 below", t.nodesAt(9), 2);
  }

  /** At the level 0 nothing is put: the functions themselves are the NODES. */
  private static void nodesAtTheFirstLevel() {
    Trellis t = new Trellis();
    for (int slot = 0; slot < 12; slot++) {
      t.below(slot, 0, 10, 2 * slot + 1);
    }
    due("a node for each slot", t.nodesAt(0), 12);
    for (int slot = 0; slot < 12; slot++) {
      t.below(slot, 0, 10, 2 * slot);
    }
    due("none of these depends on it", t.nodesAt(0), 0);
    t.variable(3, 0);
    due("one", t.nodesAt(0), 1);
  }

  /** At the level 9 all others are put to values: the variable there, or its opposite. */
  private static void nodesAtTheLastLevel() {
    Trellis t = new Trellis();
    single(t, 0, 1, 1023);
    due("the variable", t.nodesAt(9), 1);
    single(t, 1, 2, 511);
    due("and its opposite", t.nodesAt(9), 2);
    parity(t, 2, 3);
    due("never more", t.nodesAt(9), 2);
    due("of which each is one node", t.shared(0, 2), 1);
  }

  private static void sameFunctionIsOneNode() {
    Trellis t = new Trellis();
    parity(t, 0, 1);
    due("in several ways: two at each level but the first", t.size(0), 19);
    for (int slot = 1; slot < 12; slot++) {
      t.apply(slot, 0, 0, 8);
      due("from several slots", t.total(), 19);
      due("each slot has them", t.size(slot), 19);
    }
    turnOver(t, 11);
    due("the opposite is another function, at the level 0 alone", t.total(), 20);
    due("what both have", t.shared(0, 11), 18);
    Trellis two = new Trellis();
    two.variable(0, 4);
    two.variable(1, 4);
    turnOver(two, 1);
    due("a variable and its opposite", two.total(), 2);
  }

  private static void sizeAtAllLevels() {
    Trellis t = new Trellis();
    due("SIZE of 0", t.size(0), 0);
    t.constant(0, true);
    due("SIZE of 1", t.size(0), 0);
    for (int least = 1; least <= 10; least++) {
      due("SIZE of " + least + " or more of ten", t.atLeast(1, 1023, least), least * (11 - least));
      due("and again", t.size(1), least * (11 - least));
    }
    for (int v = 0; v < 10; v++) {
      due("SIZE of a variable", t.variable(2, v), 1);
    }
  }

  private static void totalOfAllSlots() {
    Trellis t = new Trellis();
    due("TOTAL of nothing", t.total(), 0);
    int[] due = {1, 2, 3, 4, 5, 6, 7, 8, 9, 10};
    for (int v = 9; v >= 0; v--) {
      t.variable(v, v);
      due("TOTAL", t.total(), due[9 - v]);
    }
    t.atLeast(10, 768, 1);
    due("one more: the variable 9 is there", t.total(), 11);
    t.variable(9, 0);
    due("it is still there, in the slot 10", t.total(), 11);
    t.constant(10, true);
    due("both go", t.total(), 9);
  }

  private static void toldIsTheSizeThen() {
    for (long seed = 1; seed <= 3; seed++) {
      Both both = Both.mixed(seed, 30);
      for (Call call : Call.values()) {
        for (int slot = 0; call.makes() && slot < 12; slot++) {
          int[] p = new int[call.kinds.length];
          for (int i = 0; i < p.length; i++) {
            p[i] = Math.max(call.kinds[i].smallest, (slot + 3 * i) % 2 + i);
          }
          p[0] = slot;
          String told = both.call(call, p);
          if (!told.equals("-1") && !told.startsWith("throws")) {
            due(call + " tells the SIZE of that slot", told, both.call(Call.SIZE, slot));
          }
        }
      }
      both.sameState("all ways of making functions");
    }
  }

  /** Every way in which the slot and those from which it is made can be the same ones. */
  private static void slotIsOneOfThose(Call call, int[] others) {
    int slots = 0;
    for (Kind kind : call.kinds) {
      slots += kind == Kind.SLOT ? 1 : 0;
    }
    for (int which = 0; which < Math.pow(3, slots); which++) {
      Both both = Both.mixed(7, 30);
      int[] p = new int[call.kinds.length];
      int rest = which;
      int next = 0;
      for (int i = 0; i < p.length; i++) {
        if (call.kinds[i] == Kind.SLOT) {
          p[i] = 4 + rest % 3;
          rest /= 3;
        } else {
          p[i] = others[next++];
        }
      }
      int[] free = p.clone();
      free[0] = 11;
      both.call(call, free);
      both.call(call, p);
      due(call + Arrays.toString(p) + " is the same as into a free slot",
          both.fast.compare(11, p[0]), 0);
      both.sameState(call + Arrays.toString(p));
    }
  }

  private static void slotIsOneOfThose() {
    for (int table = 0; table < 16; table++) {
      slotIsOneOfThose(Call.APPLY, new int[] {table});
    }
    slotIsOneOfThose(Call.CHOOSE, new int[0]);
    for (int v = 0; v < 10; v++) {
      slotIsOneOfThose(Call.PUT, new int[] {v, v % 2});
      slotIsOneOfThose(Call.COMPOSE, new int[] {v});
      slotIsOneOfThose(Call.EXCHANGE, new int[] {v, (v + 1) % 10});
    }
    for (int way = 0; way < 3; way++) {
      slotIsOneOfThose(Call.QUANTIFY, new int[] {3, way});
      slotIsOneOfThose(Call.QUANTIFY, new int[] {0, way});
      slotIsOneOfThose(Call.QUANTIFY, new int[] {1023, way});
    }
    slotIsOneOfThose(Call.MEET, new int[] {0});
    slotIsOneOfThose(Call.MEET, new int[] {20});
    slotIsOneOfThose(Call.MEET, new int[] {1023});
    slotIsOneOfThose(Call.PRESS, new int[0]);
  }

  // ---- 3 ORDERING

  private static void swapExchangesTwoLevels() {
    for (int level = 0; level < 9; level++) {
      Trellis t = new Trellis();
      t.swap(level);
      for (int k = 0; k < 10; k++) {
        int due = k == level ? level + 1 : k == level + 1 ? level : k;
        due("swap " + level + ": the variable at " + k, t.variableAt(k), due);
      }
      t.swap(level);
      due("swap " + level + " twice", t.variableAt(level), level);
    }
  }

  private static int levelOf(Trellis t, int variable) {
    for (int level = 0; level < 10; level++) {
      if (t.variableAt(level) == variable) {
        return level;
      }
    }
    return -1;
  }

  private static void othersStayInTheirOrder() {
    for (long seed = 1; seed <= 4; seed++) {
      for (int v = 0; v < 10; v++) {
        Trellis t = Both.mixed(seed, 30).fast;
        t.settle();
        List<Integer> before = new ArrayList<>();
        for (int level = 0; level < 10; level++) {
          before.add(t.variableAt(level));
        }
        before.remove(Integer.valueOf(v));
        int to = t.sift(v);
        before.add(to, v);
        for (int level = 0; level < 10; level++) {
          due("the others stay in their order", t.variableAt(level), before.get(level));
        }
      }
    }
  }

  private static void siftGoesToTheLeastTotal() {
    int[][] moves = {{10, 4, 9}, {10, 5, 9}, {4, 0, 9}, {1, 2, 9}, {20, 7, 9}};
    for (int[] m : moves) {
      Both both = Both.mixed(m[0], 30);
      int[] totals = both.slow.totalsOf(m[1]);
      due("to the last level", both.call(Call.SIFT, m[1]), String.valueOf(m[2]));
      due("TOTAL there", both.fast.total(), totals[m[2]]);
      both.sameState("sift to the last level");
    }
    for (long seed = 1; seed <= 6; seed++) {
      for (int v = 0; v < 10; v++) {
        Both both = Both.mixed(seed, 30);
        int[] totals = both.slow.totalsOf(v);
        int to = both.fast.sift(v);
        for (int level = 0; level < 10; level++) {
          due("of several the smallest level", totals[to] < totals[level]
              || totals[to] == totals[level] && to <= level, true);
        }
        due("TOTAL", both.fast.total(), totals[to]);
        due("it is there", levelOf(both.fast, v), to);
      }
    }
  }

  /** Ties: all levels tell the same, so it goes to the front, from the very last level too. */
  private static void siftOfSeveralToTheSmallest() {
    for (int from = 0; from < 10; from++) {
      Trellis t = new Trellis();
      due("nothing depends on it", t.sift(from), 0);
      Trellis alone = new Trellis();
      alone.variable(0, from);
      due("it is alone", alone.sift(from), 0);
      due("it is alone", alone.sift(from), 0);
    }
    Trellis t = new Trellis();
    t.variable(0, 4);
    t.variable(1, 6);
    t.apply(0, 0, 1, 8);
    t.constant(1, false);
    due("above or below the other: above", t.sift(6), 0);
    due("the other: as it is 2 everywhere", t.sift(4), 0);
    due("TOTAL", t.total(), 2);
  }

  private static void settlesTo(String what, long seed, int before, int then, int... order) {
    Both both = Both.mixed(seed, 30);
    due(what + ": before", both.fast.total(), before);
    due(what, both.call(Call.SETTLE), String.valueOf(before - then));
    for (int level = 0; level < 10; level++) {
      due(what + ": the level " + level, both.fast.variableAt(level), order[level]);
    }
    due(what + ": then", both.fast.total(), then);
    both.sameState(what);
  }

  /** In each of these another rule would come to another TOTAL. */
  private static void settleOneByOne() {
    settlesTo("most NODES first, not the numbers", 3, 93, 53, 9, 3, 6, 8, 1, 0, 5, 7, 4, 2);
    settlesTo("most NODES first, not the fewest", 2, 116, 80, 6, 1, 2, 0, 7, 3, 4, 5, 9, 8);
    settlesTo("as it is when this begins", 5, 212, 155, 0, 3, 5, 4, 2, 1, 9, 8, 7, 6);
    settlesTo("as it is when this begins", 8, 127, 88, 6, 2, 9, 7, 3, 4, 0, 5, 1, 8);
    settlesTo("of several the smallest number", 12, 71, 49, 3, 7, 8, 0, 4, 5, 2, 1, 6, 9);
    settlesTo("of several the smallest number", 20, 26, 18, 5, 3, 4, 2, 0, 9, 8, 1, 6, 7);
    settlesTo("the smallest level", 14, 57, 42, 7, 5, 4, 0, 2, 1, 6, 8, 9, 3);
  }

  /** The smallest number, not the smallest level: both orders end in the same one. */
  private static void settleByNumbersNotLevels() {
    for (int swaps = 0; swaps < 9; swaps++) {
      Trellis t = new Trellis();
      for (int n = 0; n < swaps; n++) {
        t.swap(n);
      }
      due("nothing to win", t.settle(), 0);
      for (int level = 0; level < 10; level++) {
        due("each to the front, the number 9 last", t.variableAt(level), 9 - level);
      }
    }
  }

  /** Each once: what another round would still win is left. */
  private static void settleEachOnce() {
    Both both = Both.mixed(3, 30);
    both.call(Call.SETTLE);
    int once = both.fast.total();
    int more = Integer.parseInt(both.call(Call.SETTLE));
    due("another round wins something here", more > 0, true);
    due("and tells how many", both.fast.total(), once - more);
    both.sameState("settle twice");
  }

  public static void main(String[] args) {
    sentence("An object is used for at most 512 calls", TermsTest::callsTo512);
    sentence("There are 10 VARIABLES, numbered from 0", TermsTest::tenVariables);
    sentence("An ASSIGNMENT is told as a number, 0 to 1023, the sum of 2^v", TermsTest::assignments);
    sentence("a set of variables is told likewise", TermsTest::setsOfVariables);
    sentence("assignments for which it tells 1 are its MODELS", TermsTest::modelsAreWhereItTells1);
    sentence("There are 12 SLOTS, numbered from 0, each with a function", TermsTest::twelveSlots);
    sentence("at first all of these tell 0 always", TermsTest::atFirstAllTell0);
    sentence("A FUNCTION DEPENDS on a variable, if", TermsTest::dependence);
    sentence("f with v put to a value", TermsTest::putToAValue);
    sentence("at first the variable k at the level k", TermsTest::levelsAtFirst);
    sentence("levels 0 to 9, each with one of them", TermsTest::everyLevelHasOneVariable);
    sentence("NODES of a level: the most there can be", TermsTest::mostNodesOfALevel);
    sentence("NODES at the level 0", TermsTest::nodesAtTheFirstLevel);
    sentence("NODES at the level 9", TermsTest::nodesAtTheLastLevel);
    sentence("The same function, from several slots or in several ways, is one NODE",
        TermsTest::sameFunctionIsOneNode);
    sentence("The SIZE of a slot is how many NODES it has, at all levels", TermsTest::sizeAtAllLevels);
    sentence("TOTAL is how many different NODES all slots have together", TermsTest::totalOfAllSlots);
    sentence("otherwise it tells the SIZE of that slot then", TermsTest::toldIsTheSizeThen);
    sentence("the slot can also be one of those from which it is made",
        () -> slotIsOneOfThose());
    sentence("To swap a level L is to exchange the variables at L and L + 1",
        TermsTest::swapExchangesTwoLevels);
    sentence("SIFT: if the others stay in their order", TermsTest::othersStayInTheirOrder);
    sentence("SIFT: to that at which TOTAL is least", TermsTest::siftGoesToTheLeastTotal);
    sentence("SIFT: of several to the smallest one", TermsTest::siftOfSeveralToTheSmallest);
    sentence("SETTLE: one by one, most NODES first", TermsTest::settleOneByOne);
    sentence("SETTLE: of several the one with the smallest number",
        TermsTest::settleByNumbersNotLevels);
    sentence("SETTLE: each once", TermsTest::settleEachOnce);
    end("TermsTest");
  }
}
