import java.math.BigInteger;
import java.util.ArrayList;
import java.util.List;

/** The sentences of the promises 1 to 38 that name a boundary, each with checks of its own. */
public final class SentenceTest extends Checks {
  private static final int[] SOME = {0, 1, 2, 31, 32, 63, 64, 341, 511, 512, 682, 1022, 1023};

  // ---- promises 1 to 5

  private static void newObject() {
    Trellis t = new Trellis();
    for (int slot = 0; slot < 12; slot++) {
      due("no models", t.models(slot), 0);
      due("no variables", t.support(slot), 0);
      due("no NODES", t.size(slot), 0);
      due("leastSize", t.leastSize(slot), 0);
    }
    due("TOTAL", t.total(), 0);
    due("meanSize", t.meanSize() == 0.0, true);
  }

  private static void constants() {
    Trellis t = new Trellis();
    for (int slot : new int[] {0, 11}) {
      due("1 always", t.constant(slot, true), 0);
      due("1 always", t.models(slot), 1024);
      due("0 always", t.constant(slot, false), 0);
      due("0 always", t.models(slot), 0);
    }
  }

  private static void variables() {
    Trellis t = new Trellis();
    for (int v : new int[] {0, 9}) {
      for (int slot : new int[] {0, 11}) {
        int k = v;
        due("SIZE", t.variable(slot, v), 1);
        tells("the variable " + v, t, slot, x -> one(x, k));
        due("half of them", t.models(slot), 512);
        due("the first one", t.model(slot, 0), 1 << v);
        due("the last one", t.model(slot, 511), 1023);
      }
    }
  }

  /** One bit of the table alone, none of them, and all of them. */
  private static void tableBits() {
    for (int x = 0; x < 2; x++) {
      for (int y = 0; y < 2; y++) {
        Trellis t = new Trellis();
        t.variable(0, 0);
        t.variable(1, 9);
        int p = x;
        int q = y;
        due("SIZE", t.apply(2, 0, 1, 1 << (2 * x + y)), 2);
        tells("the bit " + (2 * x + y), t, 2, z -> bit(z, 0) == p && bit(z, 9) == q);
        due("SIZE", t.apply(2, 0, 1, 15 - (1 << (2 * x + y))), 2);
        tells("all but the bit " + (2 * x + y), t, 2, z -> bit(z, 0) != p || bit(z, 9) != q);
      }
    }
    Trellis t = new Trellis();
    parity(t, 0, 1);
    for (int a : new int[] {0, 1}) {
      due("the table 0", t.apply(2, a, 0, 0), 0);
      due("the table 0", t.models(2), 0);
      due("the table 15", t.apply(2, a, 0, 15), 0);
      due("the table 15", t.models(2), 1024);
    }
  }

  private static void chosenByConstants() {
    Trellis t = new Trellis();
    single(t, 0, 1, 37);
    parity(t, 2, 3);
    t.constant(4, true);
    t.choose(5, 4, 0, 2);
    due("a tells 1 always: b", t.compare(5, 0), 0);
    t.choose(5, 11, 0, 2);
    due("a tells 0 always: c", t.compare(5, 2), 0);
    t.choose(5, 0, 4, 11);
    due("b tells 1, c tells 0: a", t.compare(5, 0), 0);
    t.choose(5, 0, 11, 4);
    due("b tells 0, c tells 1: not a", t.models(5), 1023);
    due("b tells 0, c tells 1: not a", t.holds(5, 37), false);
    t.choose(5, 2, 0, 0);
    due("b and c are the same", t.compare(5, 0), 0);
  }

  // ---- promises 6 to 9

  private static void puts() {
    Trellis t = new Trellis();
    for (int v : new int[] {0, 5, 6, 9}) {
      parity(t, 0, 1);
      due("SIZE", t.put(1, 0, v, false), 17);
      due("without it", t.support(1), 1023 - (1 << v));
      due("the other value is another function", t.put(2, 0, v, true), 17);
      due("nothing in common", t.compare(1, 2), 3);
      t.put(3, 1, v, true);
      due("it does not DEPEND on it any more", t.compare(3, 1), 0);
      due("of 0", t.put(3, 11, v, true), 0);
      due("of 0", t.models(3), 0);
      t.constant(10, true);
      due("of 1", t.put(3, 10, v, false), 0);
      due("of 1", t.models(3), 1024);
      t.variable(4, v);
      t.put(5, 4, v, true);
      due("the variable put to 1", t.models(5), 1024);
      t.put(5, 4, v, false);
      due("the variable put to 0", t.models(5), 0);
    }
  }

  private static void compositions() {
    for (int v : new int[] {0, 5, 6, 9}) {
      Trellis t = new Trellis();
      t.below(0, 0, 10, 341);
      t.constant(10, true);
      t.compose(1, 0, v, 10);
      t.put(2, 0, v, true);
      due("with what tells 1: put to 1", t.compare(1, 2), 0);
      t.compose(1, 0, v, 11);
      t.put(2, 0, v, false);
      due("with what tells 0: put to 0", t.compare(1, 2), 0);
      t.variable(3, v);
      t.compose(1, 0, v, 3);
      due("with the variable itself: the same", t.compare(1, 0), 0);
      t.apply(4, 3, 3, 1);
      t.compose(1, 0, v, 4);
      int k = v;
      tells("with its opposite", t, 1, x -> (x ^ 1 << k) < 341);
      t.compose(1, 3, v, 0);
      due("the variable alone: what is put there", t.compare(1, 0), 0);
      t.compose(1, 10, v, 0);
      due("of 1", t.models(1), 1024);
    }
  }

  /** How many of the ways make it 1: none, one, all but one, all; with 1 to 10 variables. */
  private static void quantifiedWays() {
    for (int many = 1; many <= 10; many++) {
      int set = (1 << many) - 1;
      int ways = 1 << many;
      for (int ones : new int[] {0, 1, 2, ways - 1, ways}) {
        Trellis t = new Trellis();
        t.below(0, 0, many, ones);
        due("at least one, " + ones + " of " + ways, t.quantify(1, 0, set, 0), 0);
        due("at least one, " + ones + " of " + ways, t.models(1), ones > 0 ? 1024 : 0);
        t.quantify(1, 0, set, 1);
        due("all, " + ones + " of " + ways, t.models(1), ones == ways ? 1024 : 0);
        t.quantify(1, 0, set, 2);
        due("odd, " + ones + " of " + ways, t.models(1), ones % 2 == 1 ? 1024 : 0);
      }
    }
  }

  /** No variables: one way alone. A variable on which it does not depend: two that are the same. */
  private static void quantifiedSets() {
    Trellis t = new Trellis();
    t.below(0, 0, 9, 341);
    for (int way = 0; way < 3; way++) {
      t.quantify(1, 0, 0, way);
      due("no variables, way " + way, t.compare(1, 0), 0);
      t.quantify(1, 0, 512, way);
      due("it does not DEPEND on it, way " + way, t.compare(1, way < 2 ? 0 : 11), 0);
      due("of 0, way " + way, t.quantify(1, 11, 1023, way), 0);
      due("of 0, way " + way, t.models(1), 0);
      t.constant(10, true);
      t.quantify(1, 10, 0, way);
      due("of 1, no variables, way " + way, t.models(1), 1024);
      t.quantify(1, 10, 1, way);
      due("of 1, way " + way, t.models(1), way < 2 ? 1024 : 0);
    }
  }

  private static void meetings() {
    for (int x : SOME) {
      Trellis t = new Trellis();
      t.below(0, 0, 10, x + 1);
      t.below(1, 0, 10, x);
      turnOver(t, 1);
      due("one way in common is enough", t.meet(2, 0, 1, 1023), 0);
      due("one way in common is enough", t.models(2), 1024);
      t.meet(2, 0, 1, 0);
      due("no variables: where both tell 1", t.models(2), 1);
      due("no variables: where both tell 1", t.model(2, 0), x);
      t.below(0, 0, 10, x);
      due("none in common", t.meet(2, 0, 1, 1023), 0);
      due("none in common", t.models(2), 0);
    }
    Trellis t = new Trellis();
    single(t, 0, 2, 5);
    single(t, 1, 2, 4);
    t.meet(2, 0, 1, 1);
    due("each for another way: not the same one", t.models(2), 0);
    t.constant(1, true);
    t.meet(2, 0, 1, 1);
    due("the same one", t.models(2), 2);
    t.meet(2, 1, 11, 1023);
    due("with 0", t.models(2), 0);
  }

  // ---- promises 10 to 13

  private static void exchanges() {
    for (int v = 0; v < 10; v++) {
      for (int w = 0; w < 10; w++) {
        Trellis t = new Trellis();
        single(t, 0, 1, 1 << v);
        due("SIZE", t.exchange(1, 0, v, w), 10);
        due("its only model", t.model(1, 0), 1 << w);
        t.exchange(1, 1, w, v);
        due("and back", t.compare(0, 1), 0);
        t.below(2, 0, 10, 341);
        t.exchange(3, 2, v, v);
        due("the same one", t.compare(3, 2), 0);
      }
    }
  }

  /** A difference at an upper level counts more than those at all lower ones. */
  private static void nearestByRows() {
    for (int v = 0; v < 10; v++) {
      Trellis t = new Trellis();
      for (int level = v; level > 0; level--) {
        t.swap(level - 1);
      }
      due("at the level 0", t.variableAt(0), v);
      couple(t, 0, 1, 1 << v, 1023 - (1 << v));
      t.variable(1, (v + 1) % 10);
      t.press(2, 1, 0);
      int k = v;
      tells("the level 0 decides", t, 2, x -> !one(x, k));
      for (int level = 0; level < 9; level++) {
        t.swap(level);
      }
      due("at the level 9", t.variableAt(9), v);
      t.press(2, 1, 0);
      int first = t.variableAt(0);
      tells("another one decides now", t, 2, x -> one(x, first));
    }
  }

  private static void pressEdges() {
    for (int x : SOME) {
      Trellis t = new Trellis();
      single(t, 0, 1, x);
      t.below(1, 0, 10, x + 1);
      due("onto one model", t.press(2, 1, 0), 0);
      due("onto one model", t.models(2), 1024);
      t.below(1, 0, 10, x);
      t.press(2, 1, 0);
      due("onto one model", t.models(2), 0);
      t.constant(3, true);
      t.press(2, 1, 3);
      due("onto all: nothing moves", t.compare(2, 1), 0);
      due("onto itself", t.press(2, 0, 0), 0);
      due("onto itself", t.models(2), 1024);
      due("of 0", t.press(2, 11, 0), 0);
      due("of 0", t.models(2), 0);
      turnOver(t, 0);
      t.press(2, 0, 0);
      due("onto all but one", t.models(2), 1024);
      refuses("no models", t, STATE, () -> t.press(2, 0, 11));
      refuses("no models, of the slot itself", t, STATE, () -> t.press(11, 11, 11));
    }
  }

  private static void thresholds() {
    int[] chosen = {1, 10, 45, 120, 210, 252, 210, 120, 45, 10, 1};
    Trellis t = new Trellis();
    int models = 1024;
    for (int least = 0; least <= 10; least++) {
      t.atLeast(0, 1023, least);
      due(least + " or more of ten", t.models(0), models);
      models -= chosen[least];
    }
    due("eleven of ten", t.atLeast(0, 1023, 11), 0);
    due("eleven of ten", t.models(0), 0);
    due("none of ten", t.atLeast(0, 1023, 0), 0);
    due("none of ten", t.models(0), 1024);
    t.atLeast(0, 1023, 10);
    due("ten of ten", t.model(0, 0), 1023);
    for (int least = 0; least <= 11; least++) {
      due("of no variables", t.atLeast(0, 0, least), 0);
      due("of no variables", t.models(0), least == 0 ? 1024 : 0);
    }
    for (int set : SOME) {
      int many = Integer.bitCount(set);
      t.atLeast(0, set, many);
      due("all of them", t.models(0), 1 << (10 - many));
      t.atLeast(0, set, many + 1);
      due("one more than there are", t.models(0), 0);
      t.atLeast(0, set, Math.min(1, many));
      due("one of them", t.models(0), many == 0 ? 1024 : 1024 - (1 << (10 - many)));
    }
  }

  private static void numbers() {
    for (int first = 0; first < 10; first++) {
      for (int bits = 1; bits <= 10 - first; bits++) {
        int each = 1 << (10 - bits);
        int all = 1 << bits;
        int f = first;
        Trellis t = new Trellis();
        due("less than 0", t.below(0, first, bits, 0), 0);
        due("less than 0", t.models(0), 0);
        t.below(0, first, bits, 1);
        due("less than 1", t.models(0), each);
        tells("less than 1: 0", t, 0, x -> (x >> f & all - 1) == 0);
        t.below(0, first, bits, all - 1);
        due("all but the greatest", t.models(0), 1024 - each);
        turnOver(t, 0);
        tells("the greatest", t, 0, x -> (x >> f & all - 1) == all - 1);
        due("all", t.below(0, first, bits, all), 0);
        due("all", t.models(0), 1024);
        t.below(0, first, bits, 1024);
        due("less than 1024", t.models(0), 1024);
        t.below(0, first, bits, all / 2);
        due("its highest bit is the last variable", t.support(0), 1 << (first + bits - 1));
      }
    }
  }

  // ---- promises 14 to 18

  private static void holding() {
    Trellis t = new Trellis();
    for (int x : SOME) {
      single(t, 0, 1, x);
      for (int y : SOME) {
        due("holds", t.holds(0, y), x == y);
        due("of 0", t.holds(11, y), false);
      }
      t.constant(1, true);
      due("of 1", t.holds(1, x), true);
    }
  }

  private static void counting() {
    Trellis t = new Trellis();
    for (int x = 0; x <= 1024; x++) {
      t.below(0, 0, 10, x);
      due("models", t.models(0), x);
    }
  }

  private static void listing() {
    Trellis t = new Trellis();
    t.constant(0, true);
    for (int number = 0; number < 1024; number++) {
      due("each assignment", t.model(0, number), number);
    }
    due("just one more than there are", t.model(0, 1024), -1);
    due("the greatest number", t.model(0, Integer.MAX_VALUE), -1);
    due("without models", t.model(11, 0), -1);
    due("without models, the greatest", t.model(11, Integer.MAX_VALUE), -1);
    for (int x : SOME) {
      single(t, 1, 2, x);
      due("the first one", t.model(1, 0), x);
      due("there is no second one", t.model(1, 1), -1);
      turnOver(t, 1);
      due("just ahead of the gap", t.model(1, Math.max(0, x - 1)), x == 0 ? 1 : x - 1);
      due("just behind the gap", t.model(1, x), x == 1023 ? -1 : x + 1);
      due("the last one", t.model(1, 1022), x == 1023 ? 1022 : 1023);
      due("no more", t.model(1, 1023), -1);
      refuses("less than 0", t, ARGUMENT, () -> t.model(1, -1));
    }
  }

  private static void supports() {
    Trellis t = new Trellis();
    due("of 0", t.support(0), 0);
    t.constant(0, true);
    due("of 1", t.support(0), 0);
    for (int set : SOME) {
      t.atLeast(0, set, Integer.bitCount(set));
      due("all of the set", t.support(0), set);
      turnOver(t, 0);
      due("all of the set, turned over", t.support(0), set);
    }
    t.variable(0, 3);
    t.apply(1, 0, 0, 6);
    due("what falls out", t.support(1), 0);
  }

  private static void compares(Trellis t, int a, int b, int due, int turned) {
    due("compare " + a + " and " + b, t.compare(a, b), due);
    due("compare " + b + " and " + a, t.compare(b, a), turned);
  }

  /** Slots: 0 and 1 have no models, 2 and 3 have all; where several are so, the first counts. */
  private static void comparing() {
    for (int x : SOME) {
      Trellis t = new Trellis();
      t.constant(2, true);
      t.constant(3, true);
      single(t, 4, 10, x);
      single(t, 5, 10, 1023 - x);
      t.apply(6, 4, 4, 1);
      couple(t, 7, 10, x, x ^ 1);
      couple(t, 8, 9, x, x ^ 512);
      compares(t, 0, 1, 0, 0);
      compares(t, 2, 3, 0, 0);
      compares(t, 4, 4, 0, 0);
      compares(t, 0, 4, 1, 2);
      compares(t, 0, 2, 1, 2);
      compares(t, 4, 2, 1, 2);
      compares(t, 6, 2, 1, 2);
      compares(t, 4, 7, 1, 2);
      compares(t, 4, 5, 3, 3);
      compares(t, 4, 6, 3, 3);
      compares(t, 5, 6, 1, 2);
      compares(t, 7, 8, 4, 4);
      compares(t, 7, 6, 4, 4);
    }
  }

  // ---- promises 19 to 23

  private static void trends() {
    for (int x : SOME) {
      for (int v = 0; v < 10; v++) {
        Trellis t = new Trellis();
        single(t, 0, 2, x);
        due("it rises or falls once", t.trend(0, v), one(x, v) ? 1 : 2);
        turnOver(t, 0);
        due("and the opposite", t.trend(0, v), one(x, v) ? 2 : 1);
        couple(t, 0, 2, x, x ^ 1023);
        due("once each", t.trend(0, v), 3);
        couple(t, 0, 2, x, x ^ 1 << v);
        due("neither", t.trend(0, v), 0);
        couple(t, 0, 2, x, x ^ 1 << (v + 1) % 10);
        due("twice the same", t.trend(0, v), one(x, v) ? 1 : 2);
      }
    }
    Trellis t = new Trellis();
    t.constant(1, true);
    for (int v = 0; v < 10; v++) {
      due("of 0", t.trend(0, v), 0);
      due("of 1", t.trend(1, v), 0);
      t.variable(2, v);
      due("it always rises", t.trend(2, v), 1);
      turnOver(t, 2);
      due("it always falls", t.trend(2, v), 2);
    }
  }

  private static void symmetry() {
    for (int x : SOME) {
      Trellis t = new Trellis();
      single(t, 0, 1, x);
      for (int v = 0; v < 10; v++) {
        for (int w = 0; w < 10; w++) {
          boolean same = bit(x, v) == bit(x, w);
          due("one model", t.isSymmetric(0, v, w), same);
          due("of 0", t.isSymmetric(11, v, w), true);
          if (!same) {
            couple(t, 1, 2, x, x ^ 1 << v ^ 1 << w);
            due("both of a pair", t.isSymmetric(1, v, w), true);
          }
        }
        due("the same one", t.isSymmetric(0, v, v), true);
      }
    }
  }

  private static void influences() {
    Trellis t = new Trellis();
    parity(t, 0, 1);
    t.constant(1, true);
    for (int v = 0; v < 10; v++) {
      due("all", t.influence(0, v), 1024);
      due("none", t.influence(1, v), 0);
      due("none", t.influence(11, v), 0);
      single(t, 2, 3, 1 << v);
      due("both of a pair", t.influence(2, v), 2);
      turnOver(t, 2);
      due("both of a pair, turned over", t.influence(2, v), 2);
      couple(t, 2, 3, 0, 1023);
      due("of two pairs", t.influence(2, v), 4);
    }
  }

  private static void costs() {
    Trellis t = new Trellis();
    for (int v = 0; v < 10; v++) {
      due("at first", t.setCost(v, 99), 0);
      due("the greatest", t.setCost(v, 0), 99);
      due("the smallest", t.setCost(v, v), 0);
    }
    for (int v = 0; v < 10; v++) {
      due("each has its own", t.setCost(v, 99 - v), v);
    }
    due("behind a refused one, as before", t.setCost(0, 98), 99);
    refuses("just above", t, ARGUMENT, () -> t.setCost(0, 100));
    refuses("just below", t, ARGUMENT, () -> t.setCost(0, -1));
    due("behind a refused one, as before", t.setCost(0, 0), 98);
  }

  private static void cheapestModels() {
    for (int x : SOME) {
      Trellis t = new Trellis();
      single(t, 0, 1, x);
      due("one model, all cost nothing", t.cheapest(0), x);
      due("without models", t.cheapest(11), -1);
      for (int v = 0; v < 10; v++) {
        t.setCost(v, 99);
      }
      due("one model, the dearest", t.cheapest(0), x);
      due("without models", t.cheapest(11), -1);
      t.constant(1, true);
      due("all models", t.cheapest(1), 0);
    }
    for (int v = 0; v < 10; v++) {
      for (int w = 0; w < 10; w++) {
        if (v != w) {
          Trellis t = new Trellis();
          couple(t, 0, 1, 1 << v, 1 << w);
          due("of several the smallest one", t.cheapest(0), 1 << Math.min(v, w));
          t.setCost(v, 99);
          t.setCost(w, 98);
          due("one less", t.cheapest(0), 1 << w);
          t.setCost(w, 99);
          due("of several the smallest one", t.cheapest(0), 1 << Math.min(v, w));
          couple(t, 0, 1, 1 << v, 1023 - (1 << v));
          due("99 against 99 and no more", t.cheapest(0), Math.min(1 << v, 1023 - (1 << v)));
          t.setCost((w + 1) % 10 == v ? (w + 2) % 10 : (w + 1) % 10, 1);
          due("99 against 100", t.cheapest(0), 1 << v);
        }
      }
    }
  }

  // ---- promises 24 to 31

  private static void sizesAndTotal() {
    Trellis t = new Trellis();
    for (int slot = 0; slot < 12; slot++) {
      due("SIZE of 0", t.size(slot), 0);
      t.constant(slot, true);
      due("SIZE of 1", t.size(slot), 0);
    }
    due("TOTAL of constants", t.total(), 0);
    t.variable(11, 9);
    due("SIZE", t.size(11), 1);
    due("TOTAL", t.total(), 1);
    parity(t, 0, 1);
    due("SIZE", t.size(0), 19);
    due("TOTAL: the variable 9 is one of them", t.total(), 19);
  }

  private static void nodesOfLevels() {
    Trellis t = new Trellis();
    parity(t, 0, 1);
    for (int level = 0; level < 10; level++) {
      due("nodesAt " + level, t.nodesAt(level), level == 0 ? 1 : 2);
    }
    for (int v : new int[] {0, 9}) {
      Trellis u = new Trellis();
      u.variable(0, v);
      for (int level = 0; level < 10; level++) {
        due("nodesAt " + level, u.nodesAt(level), level == v ? 1 : 0);
      }
    }
  }

  private static void sharing() {
    Trellis t = new Trellis();
    parity(t, 0, 1);
    due("with itself: all", t.shared(0, 0), 19);
    due("of 0 with itself", t.shared(11, 11), 0);
    due("with 0", t.shared(0, 11), 0);
    due("with 0", t.shared(11, 0), 0);
    t.variable(1, 9);
    due("one node", t.shared(0, 1), 1);
    due("one node", t.shared(1, 0), 1);
    t.variable(1, 0);
    due("another function of the same variable", t.shared(0, 1), 0);
    t.apply(2, 0, 0, 8);
    due("the same function", t.shared(0, 2), 19);
  }

  private static void waysAndDepths() {
    Trellis t = new Trellis();
    due("ways of 0", t.ways(0), 0);
    due("depth of 0", t.depth(0), 0);
    t.constant(0, true);
    due("ways of 1", t.ways(0), 1);
    due("depth of 1", t.depth(0), 0);
    for (int v = 0; v < 10; v++) {
      t.variable(0, v);
      due("ways of a variable", t.ways(0), 1);
      due("depth of a variable", t.depth(0), 1);
    }
    parity(t, 0, 1);
    due("the most ways", t.ways(0), 512);
    due("the deepest", t.depth(0), 10);
    for (int x : SOME) {
      single(t, 1, 2, x);
      due("ways to one model", t.ways(1), 1);
      due("depth of one model", t.depth(1), 10);
      turnOver(t, 1);
      due("ways beside one model", t.ways(1), 10);
      due("depth beside one model", t.depth(1), 10);
    }
    t.atLeast(3, 768, 1);
    t.swap(8);
    due("ways in another order", t.ways(3), 2);
  }

  private static void leastSizes() {
    Trellis t = new Trellis();
    due("of 0", t.leastSize(0), 0);
    t.constant(0, true);
    due("of 1", t.leastSize(0), 0);
    int[] sets = {1, 512, 3, 768, 7, 896, 15, 31, 63, 1008, 341 + 2, 127, 1016, 255, 511, 1023};
    for (int set : sets) {
      int many = Integer.bitCount(set);
      t.atLeast(0, set, 1);
      due("one of " + many, t.leastSize(0), many > 6 ? -1 : many);
      t.atLeast(0, set, many);
      due("all of " + many, t.leastSize(0), many > 6 ? -1 : many);
      t.atLeast(0, set, 2);
      due("two of " + many, t.leastSize(0), many > 6 ? -1 : 2 * (many - 1));
      t.constant(0, true);
      for (int v = 0; v < 10; v++) {
        t.variable(1, v);
        t.apply(0, 0, 1, one(set, v) ? 6 : 12);
      }
      due("an odd number of " + many, t.leastSize(0), many > 6 ? -1 : 2 * many - 1);
    }
  }

  /** The best order of this one alone would bring TOTAL above 400, and no order is tried on it. */
  private static void leastSizeAt400() {
    Both both = Both.mixed(11, 150);
    both.call(Call.CONSTANT, 0, 0);
    both.call(Call.CONSTANT, 1, 0);
    both.call(Call.CONSTANT, 2, 0);
    for (int pair = 0; pair < 3; pair++) {
      both.call(Call.VARIABLE, 1, pair);
      both.call(Call.VARIABLE, 2, pair + 3);
      both.call(Call.APPLY, 1, 1, 2, 8);
      both.call(Call.APPLY, 0, 0, 1, 14);
    }
    due("its SIZE", both.call(Call.SIZE, 0), "14");
    String before = stateOf(both.fast);
    due("its least SIZE", both.call(Call.LEAST_SIZE, 0), "6");
    unchanged("leastSize", both.fast, before);
  }

  // ---- promises 31 to 36

  private static void swapsTellTotal() {
    Trellis t = new Trellis();
    for (int level : new int[] {0, 8}) {
      due("of nothing", t.swap(level), 0);
      t.atLeast(0, 1023, 5);
      due("TOTAL stays", t.swap(level), 30);
      due("TOTAL stays, as told before", t.wouldSwap(level), 30);
      t.constant(0, false);
    }
    t.atLeast(0, 3, 2);
    t.atLeast(1, 12, 2);
    t.apply(2, 0, 1, 14);
    due("both together have four NODES, the first pair two of its own", t.total(), 6);
    due("TOTAL then, not a SIZE: one more, x1 or x3", t.swap(1), 7);
    due("TOTAL", t.total(), 7);
    due("SIZE", t.size(2), 6);
    due("and back", t.swap(1), 6);
  }

  private static void levelsThatSiftTells() {
    for (int v = 0; v < 10; v++) {
      Trellis t = new Trellis();
      t.variable(0, v);
      due("wouldSift tells the smallest level", t.wouldSift(v), 0);
      due("and changes nothing", t.variableAt(v), v);
      due("sift tells the smallest level", t.sift(v), 0);
    }
    Both both = Both.mixed(10, 30);
    due("wouldSift tells the greatest level", both.call(Call.WOULD_SIFT, 4), "9");
    due("and changes nothing", both.fast.variableAt(4), 4);
    due("sift tells the greatest level", both.call(Call.SIFT, 4), "9");
    due("it is there", both.fast.variableAt(9), 4);
    due("and stays", both.call(Call.WOULD_SIFT, 4), "9");
  }

  private static void wouldChangesNothing() {
    for (long seed = 1; seed <= 3; seed++) {
      for (int calls : new int[] {30, 150}) {
        Both both = Both.mixed(seed, calls);
        String before = stateOf(both.fast);
        for (int k = 0; k < 10; k++) {
          both.call(Call.WOULD_SIFT, k);
          both.call(Call.WOULD_SWAP, k % 9);
        }
        unchanged("what would be", both.fast, before);
        String told = both.call(Call.WOULD_SIFT, (int) seed);
        due("as sift tells", both.call(Call.SIFT, (int) seed), told);
        told = both.call(Call.WOULD_SWAP, (int) seed);
        due("as swap tells", both.call(Call.SWAP, (int) seed), told);
      }
    }
  }

  private static void settleTells() {
    Trellis t = new Trellis();
    due("of nothing", t.settle(), 0);
    for (int v = 0; v < 10; v++) {
      t.variable(v, v);
    }
    due("nothing to win", t.settle(), 0);
    due("TOTAL", t.total(), 10);
    Trellis u = new Trellis();
    u.variable(0, 0);
    u.variable(1, 5);
    u.apply(0, 0, 1, 8);
    for (int k = 1; k < 3; k++) {
      u.variable(1, k);
      u.variable(2, k + 5);
      u.apply(1, 1, 2, 8);
      u.apply(0, 0, 1, 14);
    }
    u.constant(1, true);
    u.constant(2, true);
    due("three pairs, far from each other", u.size(0), 14);
    due("how many NODES less", u.settle(), 8);
    due("TOTAL", u.total(), 6);
    due("again", u.settle(), 0);
  }

  // ---- promises 37 and 38

  /** A sum of parts would be another number than the parts of the sum for some of these. */
  private static void means() {
    int sharp = 0;
    for (int many = 0; many <= 12; many++) {
      Trellis t = new Trellis();
      double parts = 0;
      for (int slot = 0; slot < many; slot++) {
        t.variable(slot, slot % 10);
        parts += 1 / 12.0;
      }
      due("the mean of " + many, t.meanSize() == many / 12.0, true);
      sharp += parts != many / 12.0 ? 1 : 0;
    }
    due("whether it can be seen that one divides once", sharp > 0, true);
    Trellis t = new Trellis();
    for (int slot = 0; slot < 12; slot++) {
      parity(t, slot, (slot + 1) % 12);
    }
    due("each slot counts by itself, what is shared too", t.meanSize() > 17.4, true);
    int sum = 0;
    for (int slot = 0; slot < 12; slot++) {
      sum += t.size(slot);
    }
    due("their sum, divided by 12", t.meanSize() == sum / 12.0, true);
  }

  private static BigInteger unwrapped(List<Long> numbers) {
    BigInteger d = BigInteger.valueOf(58029);
    for (long x : numbers) {
      d = d.multiply(BigInteger.valueOf(31)).add(BigInteger.valueOf(x));
    }
    return d;
  }

  private static List<Long> numbersOf(Trellis t) {
    List<Long> xs = new ArrayList<>(List.of((long) t.total()));
    for (int level = 0; level < 10; level++) {
      xs.addAll(List.of((long) t.variableAt(level), (long) t.nodesAt(level)));
    }
    for (int s = 0; s < 12; s++) {
      xs.addAll(List.of((long) t.models(s), (long) t.support(s), (long) t.size(s)));
      xs.addAll(List.of((long) t.ways(s), (long) t.depth(s), (long) t.cheapest(s)));
      xs.addAll(List.of((long) t.model(s, 0), (long) t.model(s, 7), (long) t.model(s, 100)));
    }
    for (int s = 0; s < 11; s++) {
      xs.addAll(List.of((long) t.compare(s, s + 1), (long) t.shared(s, s + 1)));
    }
    for (int s = 0; s < 12; s++) {
      for (int v = 0; v < 10; v++) {
        xs.addAll(List.of((long) t.trend(s, v), (long) t.influence(s, v)));
      }
    }
    return xs;
  }

  /** On a new object every number is known: nothing is asked but digest() itself. */
  private static void digestOfNothing() {
    List<Long> xs = new ArrayList<>(List.of(0L));
    for (long level = 0; level < 10; level++) {
      xs.addAll(List.of(level, 0L));
    }
    for (int s = 0; s < 12; s++) {
      xs.addAll(List.of(0L, 0L, 0L, 0L, 0L, -1L, -1L, -1L, -1L));
    }
    for (int n = 0; n < 2 * 11 + 2 * 12 * 10; n++) {
      xs.add(0L);
    }
    due("of a new object", new Trellis().digest(), unwrapped(xs).longValue());
  }

  private static void digestWraps() {
    int above = 0;
    int below = 0;
    for (long seed = 1; seed <= 12; seed++) {
      Trellis t = Both.mixed(seed, seed > 6 ? 150 : 30).fast;
      t.setCost((int) seed % 10, 99);
      BigInteger d = unwrapped(numbersOf(t));
      due("whether it is more than 64 bits hold", d.bitLength() > 64, true);
      due("it wraps around", t.digest(), d.longValue());
      due("and again", t.digest(), d.longValue());
      above += d.longValue() > 0 ? 1 : 0;
      below += d.longValue() < 0 ? 1 : 0;
    }
    due("whether one was above 0, another below", above > 0 && below > 0, true);
  }

  /** So many models that the numbers 0, 7 and 100 are just there, or just not. */
  private static void digestOfFewModels() {
    Trellis t = new Trellis();
    int[] models = {0, 1, 7, 8, 100, 101, 1023, 1024};
    for (int i = 0; i < models.length; i++) {
      t.below(i, 0, 10, models[i]);
    }
    List<Long> xs = numbersOf(t);
    for (int i = 0; i < models.length; i++) {
      int at = 21 + 9 * i;
      due("models", xs.get(at), models[i]);
      due("model 0", xs.get(at + 6), models[i] > 0 ? 0 : -1);
      due("model 7", xs.get(at + 7), models[i] > 7 ? 7 : -1);
      due("model 100", xs.get(at + 8), models[i] > 100 ? 100 : -1);
    }
    due("digest", t.digest(), unwrapped(xs).longValue());
  }

  private static void ofSmallerPromises() {
    sentence("1 Creates a store in which all functions tell 0", SentenceTest::newObject);
    sentence("2 whether its function tells 1 always, otherwise 0", SentenceTest::constants);
    sentence("3 the variable whose value its function tells", SentenceTest::variables);
    sentence("4 the bit 2 * x + y of the table (bit 0 the lowest one)", SentenceTest::tableBits);
    sentence("5 What b tells, where a tells 1, and what c tells, where a tells 0",
        SentenceTest::chosenByConstants);
    sentence("6 the variable that is put to a value", SentenceTest::puts);
    sentence("7 with the variable put to what b tells, for each assignment",
        SentenceTest::compositions);
    sentence("8 at least one is 1; all are 1; an odd number of them is 1",
        SentenceTest::quantifiedWays);
    sentence("8 the variables of a set: none, all, others", SentenceTest::quantifiedSets);
    sentence("9 whether both tell 1 for some way, the same one", SentenceTest::meetings);
    sentence("10 the values of two variables exchanged; another one, or the same",
        SentenceTest::exchanges);
    sentence("11 compared at the first level at which they differ", SentenceTest::nearestByRows);
    sentence("11 one model, all of them, none", SentenceTest::pressEdges);
    sentence("12 so many are 1, or more", SentenceTest::thresholds);
    sentence("13 less than another one; 1 to 10 - first, 0 to 1024", SentenceTest::numbers);
    sentence("14 whether its function tells 1 for it", SentenceTest::holding);
    sentence("15 how many models", SentenceTest::counting);
    sentence("16 the model with this number; -1 if there are not so many", SentenceTest::listing);
    sentence("17 the set of the variables on which it DEPENDS", SentenceTest::supports);
    sentence("18 the first of these that is so", SentenceTest::comparing);
  }

  private static void ofGreaterPromises() {
    sentence("19 never falls; never rises; in all other cases", SentenceTest::trends);
    sentence("20 the same with both exchanged; another one, or the same", SentenceTest::symmetry);
    sentence("21 for how many assignments", SentenceTest::influences);
    sentence("22 what it cost before (0, at first)", SentenceTest::costs);
    sentence("23 of several the smallest one; -1 without models", SentenceTest::cheapestModels);
    sentence("24, 25 SIZE, TOTAL", SentenceTest::sizesAndTotal);
    sentence("26 how many of the NODES in TOTAL are at it", SentenceTest::nodesOfLevels);
    sentence("27 how many NODES both have", SentenceTest::sharing);
    sentence("28, 29 ways to 1; the longest way", SentenceTest::waysAndDepths);
    sentence("30 -1 if it DEPENDS on more than 6 variables", SentenceTest::leastSizes);
    sentence("30 whatever TOTAL would be", SentenceTest::leastSizeAt400);
    sentence("32, 35 TOTAL then, at the first level and the last", SentenceTest::swapsTellTotal);
    sentence("33, 36 the level at which it is then", SentenceTest::levelsThatSiftTells);
    sentence("35, 36 what swap and sift would tell; nothing is changed",
        SentenceTest::wouldChangesNothing);
    sentence("34 how many NODES less TOTAL has than before", SentenceTest::settleTells);
    sentence("37 their sum, divided by 12 once, not cut", SentenceTest::means);
    sentence("38 d starts with 58029", SentenceTest::digestOfNothing);
    sentence("38 wraps around as a 64-bit integer", SentenceTest::digestWraps);
    sentence("38 model() of 0, 7 and 100", SentenceTest::digestOfFewModels);
  }

  public static void main(String[] args) {
    ofSmallerPromises();
    ofGreaterPromises();
    end("SentenceTest");
  }
}
