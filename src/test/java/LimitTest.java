import java.util.Arrays;

/** TOTAL at 400, and calls that would pass it: each way of making functions, swap, sift, settle. */
public final class LimitTest extends Checks {
  private static final String ABOVE = "a call that puts a function into a slot tells -1 and changes "
      + "nothing, if TOTAL would be above 400 behind it";

  /** A call on the store that comes of a seed by so many calls. */
  private static final class Case {
    final long seed;
    final int calls;
    final Call call;
    final int[] p;

    Case(long seed, int calls, Call call, int... p) {
      this.seed = seed;
      this.calls = calls;
      this.call = call;
      this.p = p;
    }

    Both store() {
      return Both.mixed(seed, calls);
    }

    @Override
    public String toString() {
      return call + " " + Arrays.toString(p);
    }
  }

  /** TOTAL is another number before these and 400 behind them. */
  private static final Case[] TO_400 = {
    new Case(1, 150, Call.VARIABLE, 11, 2),
    new Case(1, 150, Call.APPLY, 1, 6, 0, 1),
    new Case(1, 150, Call.CHOOSE, 2, 4, 0, 1),
    new Case(1, 150, Call.PUT, 11, 7, 2, 1),
    new Case(1, 150, Call.COMPOSE, 0, 3, 6, 7),
    new Case(1, 150, Call.QUANTIFY, 0, 2, 256, 2),
    new Case(1, 150, Call.MEET, 8, 4, 0, 4),
    new Case(1, 150, Call.EXCHANGE, 10, 1, 0, 1),
    new Case(8, 150, Call.PRESS, 2, 2, 4),
    new Case(1, 150, Call.AT_LEAST, 5, 968, 5),
    new Case(8, 150, Call.BELOW, 11, 0, 10, 456)
  };

  /** TOTAL is 400 before these and would be 401 behind them. */
  private static final Case[] TO_401 = {
    new Case(5, 150, Call.VARIABLE, 10, 2),
    new Case(11, 150, Call.APPLY, 1, 1, 5, 6),
    new Case(11, 150, Call.CHOOSE, 5, 2, 7, 3),
    new Case(5, 150, Call.PUT, 8, 3, 3, 0),
    new Case(5, 150, Call.COMPOSE, 2, 2, 5, 5),
    new Case(5, 150, Call.QUANTIFY, 1, 1, 512, 0),
    new Case(5, 150, Call.MEET, 5, 2, 2, 512),
    new Case(5, 150, Call.EXCHANGE, 6, 6, 4, 2),
    new Case(5, 150, Call.PRESS, 2, 2, 9),
    new Case(11, 150, Call.AT_LEAST, 6, 164, 3),
    new Case(5, 150, Call.BELOW, 0, 5, 5, 21)
  };

  /** What was in the slot and what is put there have more than 400 nodes with all others. */
  private static final Case[] BY_REPLACING = {
    new Case(5, 150, Call.VARIABLE, 3, 6),
    new Case(1, 150, Call.APPLY, 1, 6, 0, 1),
    new Case(1, 150, Call.CHOOSE, 3, 4, 10, 0),
    new Case(1, 150, Call.PUT, 0, 0, 5, 1),
    new Case(23, 150, Call.COMPOSE, 3, 3, 4, 3),
    new Case(1, 150, Call.QUANTIFY, 0, 0, 4, 2),
    new Case(1, 150, Call.MEET, 2, 4, 4, 32),
    new Case(23, 150, Call.EXCHANGE, 8, 8, 0, 6),
    new Case(1, 150, Call.PRESS, 1, 1, 8),
    new Case(1, 150, Call.AT_LEAST, 6, 611, 2),
    new Case(5, 150, Call.BELOW, 7, 0, 7, 34)
  };

  private static void reaches400(Case c) {
    Both both = c.store();
    due(c + ": TOTAL is another one before", both.fast.total() < 400, true);
    String told = both.call(c.call, c.p);
    due(c + ": TOTAL", both.fast.total(), 400);
    due(c + ": the SIZE is told", told, String.valueOf(both.fast.size(c.p[0])));
    both.sameState(c.toString());
    due(c + ": again", c.call.on(both.fast, c.p), c.call.on(both.slow, c.p));
    both.sameState(c + " again");
  }

  private static void wouldReach401(Case c) {
    Both both = c.store();
    due(c + ": TOTAL before", both.fast.total(), 400);
    String before = stateOf(both.fast);
    due(c.toString(), c.call.on(both.fast, c.p), "-1");
    unchanged(c.toString(), both.fast, before);
    due(c + " again", c.call.on(both.fast, c.p), "-1");
    unchanged(c + " again", both.fast, before);
    c.call.on(both.slow, c.p);
    due(c + ": what TOTAL would be", both.slow.lastTotal, 401);
    both.sameState(c + ", refused");
  }

  private static void replaces(Case c) {
    Both both = c.store();
    SlowTrellis before = both.slow.copy();
    String told = both.call(c.call, c.p);
    due(c + ": both together are above 400", before.totalWith(both.slow.f[c.p[0]]) > 400, true);
    due(c + ": it is put", told, String.valueOf(both.fast.size(c.p[0])));
    both.sameState(c.toString());
  }

  /** Both constants can always be put: they have no nodes. */
  private static void constantsAt400() {
    for (int one = 0; one < 2; one++) {
      Both both = Both.mixed(11, 150);
      due("TOTAL before", both.fast.total(), 400);
      due("CONSTANT into a slot without nodes", both.call(Call.CONSTANT, 10, one), "0");
      due("TOTAL stays", both.fast.total(), 400);
      due("CONSTANT over a function", both.call(Call.CONSTANT, 0, one), "0");
      due("TOTAL is less", both.fast.total() < 400, true);
      both.sameState("CONSTANT at 400");
    }
  }

  /** A function that is there already adds nothing, its slot's old one may have been shared. */
  private static void sameFunctionsAt400() {
    Both both = Both.mixed(11, 150);
    for (int slot = 0; slot < 10; slot++) {
      both.call(Call.APPLY, slot, slot, slot, 8);
      due("the function itself again: TOTAL", both.fast.total(), 400);
    }
    both.call(Call.EXCHANGE, 10, 4, 7, 7);
    both.call(Call.CHOOSE, 11, 10, 4, 4);
    due("the same function in three slots: TOTAL", both.fast.total(), 400);
    due("one of the three goes: still all nodes", both.call(Call.VARIABLE, 4, 3), "-1");
    both.sameState("what is left of it keeps the nodes");
    both.call(Call.CONSTANT, 4, 0);
    both.call(Call.CONSTANT, 10, 1);
    due("two of the three are gone: TOTAL", both.fast.total(), 400);
    both.call(Call.CONSTANT, 11, 1);
    due("all three are gone: less", both.fast.total() < 400, true);
    both.sameState("behind all of them");
  }

  /** Behind a refusal everything goes on as if it had not been. */
  private static void goesOnBehindRefusals() {
    Both refused = Both.mixed(11, 150);
    Trellis plain = Both.mixed(11, 150).fast;
    for (Case c : TO_401) {
      String told = refused.call(c.call, c.p);
      if (!told.equals("-1")) {
        c.call.on(plain, c.p);
      }
    }
    due("the same answers follow", stateOf(refused.fast), stateOf(plain));
    due("and the same order", refused.fast.settle(), plain.settle());
    due("and the same state", stateOf(refused.fast), stateOf(plain));
  }

  // ---- the order

  private static void swapTo400(long seed, int calls, int level, int before) {
    Both both = Both.mixed(seed, calls);
    due("TOTAL before", both.fast.total(), before);
    int upper = both.fast.variableAt(level);
    due("wouldSwap to 400", both.call(Call.WOULD_SWAP, level), "400");
    due("swap to 400", both.call(Call.SWAP, level), "400");
    due("it is made", both.fast.variableAt(level + 1), upper);
    due("TOTAL", both.fast.total(), 400);
    both.sameState("a swap to 400");
    due("and back", both.call(Call.SWAP, level), String.valueOf(before));
  }

  private static void swapTo401(long seed, int calls, int level) {
    Both both = Both.mixed(seed, calls);
    due("TOTAL before", both.fast.total(), 400);
    String before = stateOf(both.fast);
    due("wouldSwap to 401", both.call(Call.WOULD_SWAP, level), "-1");
    unchanged("wouldSwap to 401", both.fast, before);
    due("what TOTAL would be", both.slow.lastTotal, 401);
    due("swap to 401", both.call(Call.SWAP, level), "-1");
    unchanged("swap to 401", both.fast, before);
    due("swap to 401, again", both.call(Call.SWAP, level), "-1");
    unchanged("swap to 401, again", both.fast, before);
  }

  private static void swaps() {
    swapTo400(8, 150, 2, 396);
    swapTo400(9, 150, 5, 396);
    swapTo400(9, 150, 7, 396);
    swapTo400(5, 150, 8, 400);
    swapTo400(11, 150, 0, 400);
    swapTo401(5, 150, 0);
    swapTo401(23, 150, 0);
    swapTo401(23, 150, 8);
  }

  /** On its way the variable passes levels at which TOTAL would be above 400. */
  private static void siftsAcross(long seed, int variable, int from, int to) {
    Both both = Both.mixed(seed, 60);
    due("where it stands", both.fast.variableAt(from), variable);
    int[] totals = both.slow.totalsOf(variable);
    boolean passes = false;
    for (int level = Math.min(from, to) + 1; level < Math.max(from, to); level++) {
      passes |= totals[level] > 400;
    }
    due("levels that do not count lie between", passes, true);
    String before = stateOf(both.fast);
    due("wouldSift", both.call(Call.WOULD_SIFT, variable), String.valueOf(to));
    unchanged("wouldSift across 400", both.fast, before);
    due("sift", both.call(Call.SIFT, variable), String.valueOf(to));
    due("where it is then", both.fast.variableAt(to), variable);
    due("TOTAL is the least one", both.fast.total(), totals[to]);
    both.sameState("a sift across 400");
  }

  private static void siftsPastLevelsThatDoNotCount() {
    siftsAcross(21, 2, 2, 6);
    siftsAcross(28, 1, 1, 7);
    siftsAcross(28, 2, 2, 6);
    siftsAcross(13, 8, 8, 3);
    siftsAcross(13, 6, 6, 0);
    siftsAcross(28, 7, 7, 4);
  }

  /** TOTAL is 400 at every level: that counts, and the smallest level is the one. */
  private static void siftsWhereAllLevelsTell400() {
    Both both = Both.mixedWithout(6, 195, 50);
    due("TOTAL", both.fast.total(), 400);
    for (int at = 6; at < 9; at++) {
      due("a swap that leaves TOTAL at 400", both.call(Call.SWAP, at), "400");
    }
    due("the variable 6 is at the last level", both.fast.variableAt(9), 6);
    due("wouldSift", both.call(Call.WOULD_SIFT, 6), "0");
    due("sift", both.call(Call.SIFT, 6), "0");
    due("TOTAL stays", both.fast.total(), 400);
    both.sameState("a sift at 400");
  }

  /** No other level counts, or none is better: each variable stays, and does not go to level 0. */
  private static void staysAt400() {
    Both both = Both.mixed(1151, 150);
    both.call(Call.SETTLE);
    both.call(Call.AT_LEAST, 10, 7, 1);
    due("TOTAL", both.fast.total(), 400);
    int alone = 0;
    for (int level = 1; level < 9; level++) {
      int v = both.fast.variableAt(level);
      int counted = 0;
      for (int total : both.slow.totalsOf(v)) {
        counted += total <= 400 ? 1 : 0;
      }
      alone += counted == 1 ? 1 : 0;
      due("wouldSift at 400", both.call(Call.WOULD_SIFT, v), String.valueOf(level));
      due("sift at 400", both.call(Call.SIFT, v), String.valueOf(level));
      due("TOTAL", both.fast.total(), 400);
    }
    due("for some no other level counts", alone > 0, true);
    both.sameState("sifts that stay at 400");
  }

  /** Settling lets variables pass levels that do not count, and ends as the slow one does. */
  private static void settles(long seed, int calls, int total, int then, int... order) {
    Both both = Both.mixed(seed, calls);
    due("TOTAL before", both.fast.total(), total);
    due("settle", both.call(Call.SETTLE), String.valueOf(total - then));
    due("TOTAL then", both.fast.total(), then);
    for (int level = 0; level < 10; level++) {
      due("the variable at the level " + level, both.fast.variableAt(level), order[level]);
    }
    both.sameState("settle");
  }

  public static void main(String[] args) {
    for (Case c : TO_400) {
      sentence(ABOVE + "; otherwise it tells the SIZE of that slot then: 400 by " + c.call,
          () -> reaches400(c));
    }
    for (Case c : TO_401) {
      sentence(ABOVE + ": 401 by " + c.call, () -> wouldReach401(c));
    }
    for (Case c : BY_REPLACING) {
      sentence("What is put into a slot replaces what was there: " + c.call, () -> replaces(c));
    }
    sentence(ABOVE + ": constants never are", LimitTest::constantsAt400);
    sentence("The same function, from several slots, is one NODE: at 400",
        LimitTest::sameFunctionsAt400);
    sentence(ABOVE + ": what follows", LimitTest::goesOnBehindRefusals);
    sentence("swap tells TOTAL then; -1 if it would be above 400", LimitTest::swaps);
    sentence("those count for which TOTAL would not be above 400: it passes the others",
        LimitTest::siftsPastLevelsThatDoNotCount);
    sentence("those count for which TOTAL would not be above 400: 400 is not",
        LimitTest::siftsWhereAllLevelsTell400);
    sentence("those count for which TOTAL would not be above 400: its own level, at 400",
        LimitTest::staysAt400);
    sentence("SETTLE lets the variables SIFT, also past levels that do not count", () ->
        settles(36, 150, 399, 293, 1, 6, 4, 3, 9, 7, 8, 0, 5, 2));
    end("LimitTest");
  }
}
