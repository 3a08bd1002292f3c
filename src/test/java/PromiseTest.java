/**
 * Promise by promise: ordinary inputs, the edges that the document names, and wrong inputs. What
 * is due stands here as the document tells it, without a second program.
 */
public final class PromiseTest extends Checks {
  // ---- stores to begin with

  /** The variable k in each slot k from 0 to 9; the slots 10 and 11 tell 0. */
  private static Trellis variables() {
    Trellis t = new Trellis();
    for (int v = 0; v < 10; v++) {
      t.variable(v, v);
    }
    return t;
  }

  /** The slot 0: x0 x1 or x2 x3 or x4 x5, the next ones its parts; the others tell 0. */
  private static Trellis pairs() {
    Trellis t = new Trellis();
    for (int v = 0; v < 6; v++) {
      t.variable(v + 1, v);
    }
    t.apply(1, 1, 2, 8);
    t.apply(2, 3, 4, 8);
    t.apply(3, 5, 6, 8);
    t.apply(4, 1, 2, 14);
    t.apply(0, 3, 4, 14);
    for (int s = 4; s < 7; s++) {
      t.constant(s, false);
    }
    return t;
  }

  private static boolean ofPairs(int x) {
    return (x & 3) == 3 || (x & 12) == 12 || (x & 48) == 48;
  }

  /** x0 x5 or x1 x6 or .. or x4 x9 in the slot: 62 nodes in the first order, 10 in the best. */
  private static void farPairs(Trellis t, int slot, int help) {
    t.constant(slot, false);
    for (int k = 0; k < 5; k++) {
      t.variable(help, k);
      t.variable(help + 1, k + 5);
      t.apply(help, help, help + 1, 8);
      t.apply(slot, slot, help, 14);
    }
    t.constant(help, false);
    t.constant(help + 1, false);
  }

  private static boolean ofFarPairs(int x) {
    return (x & (x >> 5) & 31) != 0;
  }

  /** TOTAL is exactly 400 here, by this mixture and seed; the slots 10 and 11 tell 0. */
  private static Trellis full() {
    return mixed(11);
  }

  private static Trellis mixed(long first) {
    Trellis t = variables();
    long seed = first;
    for (int call = 0; call < 150; call++) {
      int[] p = new int[4];
      for (int i = 0; i < 4; i++) {
        seed = seed * 6364136223846793005L + 1442695040888963407L;
        p[i] = (int) ((seed >>> 33) % 10);
      }
      if (call % 4 < 2) {
        t.choose(p[0], p[1], p[0], p[2]);
      } else if (call % 4 == 2) {
        t.apply(p[0], p[0], p[1], 6);
      } else {
        t.exchange(p[0], p[0], p[1], p[2]);
      }
    }
    return t;
  }

  // ---- promises 1 to 3

  private static void newObject() {
    Trellis t = new Trellis();
    due("1: total()", t.total(), 0);
    for (int s = 0; s < 12; s++) {
      due("1: models", t.models(s), 0);
      due("1: size", t.size(s), 0);
      due("1: cheapest", t.cheapest(s), -1);
      tells("1: a slot of a new object", t, s, x -> false);
    }
    for (int k = 0; k < 10; k++) {
      due("1: variableAt", t.variableAt(k), k);
      due("1: nodesAt", t.nodesAt(k), 0);
      due("1: cost", t.setCost(k, 0), 0);
    }
    Trellis other = new Trellis();
    other.constant(0, true);
    due("1: another object is another one", t.models(0), 0);
  }

  private static void constants() {
    Trellis t = variables();
    due("2: constant 1", t.constant(0, true), 0);
    due("2: constant 0", t.constant(11, false), 0);
    due("2: constant 1 over a function", t.constant(5, true), 0);
    due("2: total", t.total(), 8);
    tells("2: constant 1", t, 0, x -> true);
    tells("2: constant 1", t, 5, x -> true);
    tells("2: constant 0", t, 11, x -> false);
    t.constant(0, false);
    tells("2: constant 0", t, 0, x -> false);
    for (int s : NO_SLOTS) {
      refuses("2: constant", t, INDEX, () -> t.constant(s, true));
    }
  }

  private static void variablesOfSlots() {
    Trellis t = new Trellis();
    for (int v = 0; v < 10; v++) {
      int k = v;
      due("3: variable", t.variable(11 - v, v), 1);
      tells("3: variable " + v, t, 11 - v, x -> one(x, k));
      due("3: support", t.support(11 - v), 1 << v);
    }
    due("3: total", t.total(), 10);
    due("3: the same one again", t.variable(0, 3), 1);
    due("3: the same node", t.total(), 10);
    due("3: replaced", t.variable(11, 9), 1);
    due("3: total then", t.total(), 9);
    for (int s : NO_SLOTS) {
      refuses("3: variable", t, INDEX, () -> t.variable(s, 0));
    }
    for (int v : NO_VARIABLES) {
      refuses("3: variable", t, INDEX, () -> t.variable(0, v));
    }
  }

  // ---- promises 4 to 9

  private static void tables() {
    for (int table = 0; table < 16; table++) {
      Trellis t = variables();
      int told = table;
      int got = t.apply(11, 2, 7, table);
      tells("4: apply by " + table, t, 11, x -> one(told, 2 * bit(x, 2) + bit(x, 7)));
      int[] sizes = {0, 2, 2, 1, 2, 1, 2, 2, 2, 2, 1, 2, 1, 2, 2, 0};
      due("4: SIZE by " + table, got, table == 6 || table == 9 ? 3 : sizes[table]);
      due("4: size() by " + table, t.size(11), got);
    }
    Trellis t = variables();
    due("4: a slot with itself", t.apply(3, 3, 3, 7), 1);
    tells("4: a slot with itself", t, 3, x -> !one(x, 3));
    t.apply(4, 4, 5, 2);
    tells("4: into the first one", t, 4, x -> !one(x, 4) && one(x, 5));
    t.apply(5, 6, 5, 4);
    tells("4: into the second one", t, 5, x -> one(x, 6) && !one(x, 5));
    for (int s : NO_SLOTS) {
      refuses("4: apply", t, INDEX, () -> t.apply(s, 0, 0, 16));
      refuses("4: apply", t, INDEX, () -> t.apply(0, s, 0, -1));
      refuses("4: apply", t, INDEX, () -> t.apply(0, 0, s, 8));
    }
    for (int table : new int[] {-1, 16, Integer.MIN_VALUE, Integer.MAX_VALUE}) {
      refuses("4: apply by " + table, t, ARGUMENT, () -> t.apply(0, 1, 2, table));
    }
  }

  private static void choices() {
    Trellis t = variables();
    due("5: choose", t.choose(11, 0, 1, 2), 3);
    tells("5: choose", t, 11, x -> one(x, 0) ? one(x, 1) : one(x, 2));
    due("5: choose, lower first", t.choose(10, 2, 1, 0), 5);
    tells("5: choose, lower first", t, 10, x -> one(x, 2) ? one(x, 1) : one(x, 0));
    t.choose(4, 5, 4, 6);
    tells("5: into b", t, 4, x -> one(x, 5) ? one(x, 4) : one(x, 6));
    t.choose(7, 8, 9, 7);
    tells("5: into c", t, 7, x -> one(x, 8) ? one(x, 9) : one(x, 7));
    t.choose(3, 3, 2, 1);
    tells("5: into a", t, 3, x -> one(x, 3) ? one(x, 2) : one(x, 1));
    for (int s : NO_SLOTS) {
      refuses("5: choose", t, INDEX, () -> t.choose(s, 0, 1, 2));
      refuses("5: choose", t, INDEX, () -> t.choose(0, s, 1, 2));
      refuses("5: choose", t, INDEX, () -> t.choose(0, 1, s, 2));
      refuses("5: choose", t, INDEX, () -> t.choose(0, 1, 2, s));
    }
  }

  private static void puts() {
    for (int v = 0; v < 10; v++) {
      int k = v;
      Trellis t = new Trellis();
      farPairs(t, 0, 5);
      t.put(1, 0, v, true);
      t.put(2, 0, v, false);
      tells("6: put to 1", t, 1, x -> ofFarPairs(x | 1 << k));
      tells("6: put to 0", t, 2, x -> ofFarPairs(x & ~(1 << k)));
      tells("6: the function itself", t, 0, x -> ofFarPairs(x));
    }
    Trellis t = pairs();
    due("6: SIZE of put to 1", t.put(7, 0, 0, true), 5);
    due("6: SIZE of put to 0", t.put(7, 0, 0, false), 4);
    due("6: of which it does not depend", t.put(7, 0, 9, true), 6);
    due("6: into itself", t.put(0, 0, 5, true), 5);
    tells("6: into itself", t, 0, x -> ofPairs(x | 32));
    for (int s : NO_SLOTS) {
      refuses("6: put", t, INDEX, () -> t.put(s, 0, 0, true));
      refuses("6: put", t, INDEX, () -> t.put(0, s, 0, true));
    }
    for (int v : NO_VARIABLES) {
      refuses("6: put", t, INDEX, () -> t.put(0, 0, v, false));
    }
  }

  private static void compositions() {
    for (int v = 0; v < 10; v++) {
      int k = v;
      Trellis t = new Trellis();
      farPairs(t, 0, 5);
      t.variable(1, (v + 3) % 10);
      t.variable(2, v);
      t.apply(1, 1, 2, 6);
      t.compose(3, 0, v, 1);
      tells("7: compose of " + v, t, 3, x ->
          ofFarPairs(x & ~(1 << k) | (bit(x, k) ^ bit(x, (k + 3) % 10)) << k));
    }
    Trellis t = pairs();
    due("7: SIZE, x0 and the second pair", t.compose(4, 0, 0, 2), 4);
    tells("7: compose", t, 4, x -> ofPairs(x & ~1 | ((x & 12) == 12 ? 1 : 0)));
    t.compose(0, 0, 1, 0);
    tells("7: of a slot with itself", t, 0, x -> ofPairs(x & ~2 | (ofPairs(x) ? 2 : 0)));
    for (int s : NO_SLOTS) {
      refuses("7: compose", t, INDEX, () -> t.compose(s, 0, 0, 1));
      refuses("7: compose", t, INDEX, () -> t.compose(0, s, 0, 1));
      refuses("7: compose", t, INDEX, () -> t.compose(0, 1, 0, s));
    }
    for (int v : NO_VARIABLES) {
      refuses("7: compose", t, INDEX, () -> t.compose(0, 1, v, 1));
    }
  }

  private static void quantifiers() {
    Trellis t = pairs();
    due("8: any", t.quantify(4, 0, 1, 0), 5);
    tells("8: any", t, 4, x -> ofPairs(x | 1));
    due("8: all", t.quantify(4, 0, 1, 1), 4);
    tells("8: all", t, 4, x -> ofPairs(x & ~1));
    due("8: odd", t.quantify(4, 0, 1, 2), 5);
    tells("8: odd", t, 4, x -> ofPairs(x | 1) != ofPairs(x & ~1));
    t.quantify(4, 0, 5, 2);
    tells("8: odd of two", t, 4, x -> {
      int ones = 0;
      for (int y : new int[] {0, 1, 4, 5}) {
        ones += ofPairs(x & ~5 | y) ? 1 : 0;
      }
      return ones % 2 == 1;
    });
    for (int way = 0; way < 3; way++) {
      t.quantify(5, 0, 0, way);
      tells("8: no variables, way " + way, t, 5, x -> ofPairs(x));
    }
    due("8: any of all", t.quantify(5, 0, 1023, 0), 0);
    tells("8: any of all", t, 5, x -> true);
    t.quantify(5, 0, 1023, 1);
    tells("8: all of all", t, 5, x -> false);
    t.quantify(5, 0, 63, 2);
    tells("8: odd of the six", t, 5, x -> t.models(0) / 16 % 2 == 1);
    t.quantify(5, 0, 1023, 2);
    tells("8: odd of all", t, 5, x -> false);
    farPairs(t, 6, 7);
    t.quantify(6, 6, 32 + 512, 0);
    tells("8: any of the high ones, into itself", t, 6, x -> ofFarPairs(x | 32 | 512));
    for (int s : NO_SLOTS) {
      refuses("8: quantify", t, INDEX, () -> t.quantify(s, 0, -1, 3));
      refuses("8: quantify", t, INDEX, () -> t.quantify(0, s, 0, 0));
    }
    for (int set : NO_SETS) {
      refuses("8: quantify", t, ARGUMENT, () -> t.quantify(0, 0, set, 0));
    }
    for (int way : new int[] {-1, 3, Integer.MIN_VALUE, Integer.MAX_VALUE}) {
      refuses("8: quantify", t, ARGUMENT, () -> t.quantify(0, 0, 1, way));
    }
  }

  private static void meetings() {
    Trellis t = variables();
    t.apply(10, 0, 9, 6);
    t.apply(11, 0, 9, 9);
    due("9: both, another way each", t.meet(8, 10, 11, 513), 0);
    tells("9: not the same way", t, 8, x -> false);
    due("9: both", t.meet(8, 10, 0, 1), 1);
    tells("9: with x0 put to 1", t, 8, x -> !one(x, 9));
    t.meet(8, 10, 1, 512);
    tells("9: one of them as it is", t, 8, x -> one(x, 1));
    t.meet(8, 10, 2, 0);
    tells("9: no variables", t, 8, x -> one(x, 2) && one(x, 0) != one(x, 9));
    t.meet(10, 10, 10, 1023);
    tells("9: all variables, into itself", t, 10, x -> true);
    for (int s : NO_SLOTS) {
      refuses("9: meet", t, INDEX, () -> t.meet(s, 0, 0, -1));
      refuses("9: meet", t, INDEX, () -> t.meet(0, s, 0, 0));
      refuses("9: meet", t, INDEX, () -> t.meet(0, 0, s, 1024));
    }
    for (int set : NO_SETS) {
      refuses("9: meet", t, ARGUMENT, () -> t.meet(0, 1, 2, set));
    }
  }

  // ---- promises 10 to 13

  private static void exchanges() {
    for (int v = 0; v < 10; v++) {
      for (int w = 0; w < 10; w++) {
        int p = v;
        int q = w;
        Trellis t = new Trellis();
        t.below(0, 0, 10, 333);
        t.exchange(1, 0, v, w);
        tells("10: exchange " + v + " and " + w, t, 1, x ->
            (x & ~(1 << p | 1 << q) | bit(x, p) << q | bit(x, q) << p) < 333);
      }
    }
    Trellis t = pairs();
    due("10: SIZE", t.exchange(4, 0, 1, 2), 8);
    due("10: the same variable", t.exchange(0, 0, 7, 7), 6);
    t.exchange(0, 0, 5, 9);
    tells("10: into itself", t, 0, x -> ofPairs(x & 31 | (x >> 9) << 5));
    for (int s : NO_SLOTS) {
      refuses("10: exchange", t, INDEX, () -> t.exchange(s, 0, 0, 1));
      refuses("10: exchange", t, INDEX, () -> t.exchange(0, s, 0, 1));
    }
    for (int v : NO_VARIABLES) {
      refuses("10: exchange", t, INDEX, () -> t.exchange(0, 0, v, 1));
      refuses("10: exchange", t, INDEX, () -> t.exchange(0, 0, 1, v));
    }
  }

  private static void presses() {
    Trellis t = variables();
    // Models of slot 10 are those with x0 = 1 or x1 = 1; at level 0 stands x0.
    t.apply(10, 0, 1, 14);
    due("11: SIZE", t.press(11, 1, 10), 2);
    tells("11: x1 is changed, x0 is not", t, 11, x -> one(x, 1) || !one(x, 0));
    t.press(11, 0, 10);
    tells("11: x0 stays", t, 11, x -> one(x, 0));
    t.swap(0);
    t.press(11, 1, 10);
    tells("11: the order counts", t, 11, x -> one(x, 1));
    t.press(11, 0, 10);
    tells("11: the order counts", t, 11, x -> one(x, 0) || !one(x, 1));
    // One model alone, 37: everything comes to it.
    t.below(10, 0, 10, 38);
    t.below(9, 0, 10, 37);
    t.apply(10, 10, 9, 4);
    due("11: one model", t.press(11, 2, 10), 0);
    tells("11: one model", t, 11, x -> true);
    t.press(11, 3, 10);
    tells("11: one model", t, 11, x -> false);
    // All models: nothing moves.
    t.constant(10, true);
    t.press(11, 4, 10);
    tells("11: onto all", t, 11, x -> one(x, 4));
    t.press(5, 5, 5);
    tells("11: onto itself", t, 5, x -> true);
    t.constant(10, false);
    refuses("11: no models", t, STATE, () -> t.press(0, 1, 10));
    refuses("11: no models, the same", t, STATE, () -> t.press(10, 10, 10));
    for (int s : NO_SLOTS) {
      refuses("11: press", t, INDEX, () -> t.press(s, 0, 10));
      refuses("11: press", t, INDEX, () -> t.press(0, s, 10));
      refuses("11: press", t, INDEX, () -> t.press(0, 1, s));
    }
  }

  private static void thresholds() {
    Trellis t = new Trellis();
    for (int set : new int[] {0, 1, 512, 682, 37, 1023}) {
      for (int least = 0; least <= 11; least++) {
        int n = least;
        t.atLeast(3, set, least);
        tells("12: " + least + " of " + set, t, 3, x -> Integer.bitCount(x & set) >= n);
      }
    }
    due("12: SIZE", t.atLeast(0, 1023, 4), 28);
    due("12: none asked", t.atLeast(0, 1023, 0), 0);
    due("12: more than there are", t.atLeast(0, 1023, 11), 0);
    due("12: all", t.atLeast(0, 1023, 10), 10);
    for (int s : NO_SLOTS) {
      refuses("12: atLeast", t, INDEX, () -> t.atLeast(s, -1, 12));
    }
    for (int set : NO_SETS) {
      refuses("12: atLeast", t, ARGUMENT, () -> t.atLeast(0, set, 1));
    }
    for (int least : new int[] {-1, 12, Integer.MIN_VALUE, Integer.MAX_VALUE}) {
      refuses("12: atLeast", t, ARGUMENT, () -> t.atLeast(0, 3, least));
    }
  }

  private static void numbers() {
    Trellis t = new Trellis();
    for (int first = 0; first < 10; first++) {
      for (int bits = 1; bits <= 10 - first; bits++) {
        for (int than : new int[] {0, 1, (1 << bits) - 1, 1 << bits, 5, 1024}) {
          int f = first;
          int mask = (1 << bits) - 1;
          t.below(2, first, bits, than);
          tells("13: below " + first + " " + bits + " " + than, t, 2, x -> (x >> f & mask) < than);
        }
      }
    }
    due("13: SIZE", t.below(0, 0, 10, 512), 1);
    due("13: all are", t.below(0, 0, 10, 1024), 0);
    due("13: SIZE", t.below(0, 2, 3, 5), 3);
    for (int s : NO_SLOTS) {
      refuses("13: below", t, INDEX, () -> t.below(s, 0, 0, -1));
    }
    for (int v : NO_VARIABLES) {
      refuses("13: below", t, INDEX, () -> t.below(0, v, 1, 1));
      refuses("13: below", t, INDEX, () -> t.below(0, v, 0, 2000));
    }
    for (int first : new int[] {0, 4, 9}) {
      int[] noBits = {0, -1, 11 - first, 12, Integer.MIN_VALUE, Integer.MAX_VALUE};
      for (int bits : noBits) {
        refuses("13: below, bits " + bits, t, ARGUMENT, () -> t.below(0, first, bits, 1));
      }
    }
    for (int than : new int[] {-1, 1025, Integer.MIN_VALUE, Integer.MAX_VALUE}) {
      refuses("13: below, than " + than, t, ARGUMENT, () -> t.below(0, 0, 10, than));
    }
  }

  // ---- promises 14 to 23

  private static void holding() {
    Trellis t = pairs();
    due("14: holds", t.holds(0, 3), true);
    due("14: holds", t.holds(0, 1), false);
    due("14: holds", t.holds(0, 1023), true);
    due("14: holds", t.holds(0, 0), false);
    for (int s : NO_SLOTS) {
      refuses("14: holds", t, INDEX, () -> t.holds(s, -1) ? 1 : 0);
    }
    for (int x : NO_SETS) {
      refuses("14: holds", t, ARGUMENT, () -> t.holds(0, x) ? 1 : 0);
    }
  }

  private static void counting() {
    Trellis t = pairs();
    due("15: models", t.models(0), (64 - 27) * 16);
    due("15: models", t.models(1), 256);
    due("15: models of 0", t.models(11), 0);
    t.constant(11, true);
    due("15: models of 1", t.models(11), 1024);
    for (int s : NO_SLOTS) {
      refuses("15: models", t, INDEX, () -> t.models(s));
    }
  }

  private static void listing() {
    Trellis t = pairs();
    farPairs(t, 6, 7);
    for (int slot : new int[] {0, 1, 6, 11}) {
      int number = 0;
      for (int x = 0; x < 1024; x++) {
        if (t.holds(slot, x)) {
          due("16: model " + number, t.model(slot, number), x);
          number++;
        }
      }
      due("16: no more", t.model(slot, number), -1);
      due("16: no more", t.model(slot, 1023), -1);
      due("16: far more", t.model(slot, Integer.MAX_VALUE), -1);
    }
    t.constant(11, true);
    due("16: the last one", t.model(11, 1023), 1023);
    due("16: behind it", t.model(11, 1024), -1);
    for (int s : NO_SLOTS) {
      refuses("16: model", t, INDEX, () -> t.model(s, -1));
    }
    refuses("16: model", t, ARGUMENT, () -> t.model(0, -1));
    refuses("16: model", t, ARGUMENT, () -> t.model(0, Integer.MIN_VALUE));
  }

  private static void supports() {
    Trellis t = pairs();
    due("17: support", t.support(0), 63);
    due("17: support", t.support(3), 48);
    due("17: of a constant", t.support(11), 0);
    t.constant(11, true);
    due("17: of a constant", t.support(11), 0);
    farPairs(t, 6, 7);
    due("17: all", t.support(6), 1023);
    t.put(6, 6, 8, false);
    due("17: without two", t.support(6), 1023 - 256 - 8);
    String before = stateOf(full());
    Trellis f = full();
    refuseAnyPut(f);
    unchanged("17: a refused put", f, before);
    for (int s : NO_SLOTS) {
      refuses("17: support", t, INDEX, () -> t.support(s));
    }
  }

  private static void comparing() {
    Trellis t = variables();
    t.apply(10, 0, 1, 8);
    t.apply(11, 0, 1, 2);
    due("18: the same slot", t.compare(10, 10), 0);
    due("18: a in b", t.compare(10, 0), 1);
    due("18: b in a", t.compare(0, 10), 2);
    due("18: none in common", t.compare(11, 10), 3);
    due("18: in all other cases", t.compare(0, 1), 4);
    t.constant(2, false);
    t.constant(3, false);
    t.constant(4, true);
    due("18: none and none", t.compare(2, 3), 0);
    due("18: a has none", t.compare(2, 0), 1);
    due("18: b has none", t.compare(0, 2), 2);
    due("18: all", t.compare(0, 4), 1);
    due("18: all", t.compare(4, 0), 2);
    t.apply(5, 0, 0, 7);
    due("18: what is left", t.compare(0, 5), 3);
    for (int s : NO_SLOTS) {
      refuses("18: compare", t, INDEX, () -> t.compare(s, 0));
      refuses("18: compare", t, INDEX, () -> t.compare(0, s));
    }
  }

  private static void trends() {
    for (int v = 0; v < 10; v++) {
      int w = (v + 4) % 10;
      Trellis t = variables();
      due("19: rises", t.trend(v, v), 1);
      due("19: does not depend", t.trend(v, w), 0);
      t.apply(11, v, w, 4);
      due("19: rises now and then", t.trend(11, v), 1);
      due("19: falls now and then", t.trend(11, w), 2);
      t.apply(11, v, w, 6);
      due("19: both", t.trend(11, v), 3);
    }
    Trellis t = new Trellis();
    due("19: of a constant", t.trend(0, 0), 0);
    for (int s : NO_SLOTS) {
      refuses("19: trend", t, INDEX, () -> t.trend(s, 0));
    }
    for (int v : NO_VARIABLES) {
      refuses("19: trend", t, INDEX, () -> t.trend(0, v));
    }
  }

  private static void symmetry() {
    Trellis t = pairs();
    due("20: within a pair", t.isSymmetric(0, 0, 1), true);
    due("20: across pairs", t.isSymmetric(0, 1, 2), false);
    due("20: the same variable", t.isSymmetric(0, 4, 4), true);
    due("20: none of its own", t.isSymmetric(0, 8, 9), true);
    due("20: one of its own", t.isSymmetric(0, 0, 9), false);
    for (int v = 0; v < 10; v++) {
      for (int w = 0; w < 10; w++) {
        t.atLeast(11, 1023, 4);
        due("20: threshold", t.isSymmetric(11, v, w), true);
        t.below(11, 0, 10, 341);
        due("20: below", t.isSymmetric(11, v, w), v == w || v + w == 1);
      }
    }
    for (int s : NO_SLOTS) {
      refuses("20: isSymmetric", t, INDEX, () -> t.isSymmetric(s, 0, 1) ? 1 : 0);
    }
    for (int v : NO_VARIABLES) {
      refuses("20: isSymmetric", t, INDEX, () -> t.isSymmetric(0, v, 1) ? 1 : 0);
      refuses("20: isSymmetric", t, INDEX, () -> t.isSymmetric(0, 1, v) ? 1 : 0);
    }
  }

  private static void influences() {
    Trellis t = pairs();
    for (int v = 0; v < 6; v++) {
      due("21: influence", t.influence(0, v), 2 * 9 * 16);
    }
    due("21: none", t.influence(0, 7), 0);
    for (int v = 0; v < 10; v++) {
      t.variable(11, v);
      due("21: of the variable", t.influence(11, v), 1024);
    }
    for (int s : NO_SLOTS) {
      refuses("21: influence", t, INDEX, () -> t.influence(s, 0));
    }
    for (int v : NO_VARIABLES) {
      refuses("21: influence", t, INDEX, () -> t.influence(0, v));
    }
  }

  private static void costs() {
    Trellis t = pairs();
    due("22: at first", t.setCost(0, 99), 0);
    due("22: what it was", t.setCost(0, 7), 99);
    due("22: of another one", t.setCost(9, 0), 0);
    due("22: again", t.setCost(0, 0), 7);
    t.setCost(3, 12);
    for (int v : NO_VARIABLES) {
      refuses("22: setCost", t, INDEX, () -> t.setCost(v, 100));
    }
    for (int c : new int[] {-1, 100, Integer.MIN_VALUE, Integer.MAX_VALUE}) {
      refuses("22: setCost", t, ARGUMENT, () -> t.setCost(3, c));
    }
    due("22: nothing is changed by those", t.setCost(3, 0), 12);
  }

  private static void cheapestModels() {
    Trellis t = pairs();
    due("23: all cost nothing", t.cheapest(0), 3);
    t.setCost(0, 5);
    due("23: another pair", t.cheapest(0), 12);
    t.setCost(2, 5);
    due("23: another pair", t.cheapest(0), 48);
    t.setCost(4, 4);
    t.setCost(5, 1);
    due("23: of several the smallest", t.cheapest(0), 3);
    t.setCost(1, 99);
    t.setCost(3, 98);
    due("23: the sum", t.cheapest(0), 48);
    due("23: without models", t.cheapest(11), -1);
    t.constant(11, true);
    due("23: none is 1", t.cheapest(11), 0);
    for (int v = 0; v < 10; v++) {
      t.setCost(v, 99);
    }
    t.atLeast(11, 1023, 10);
    due("23: the dearest", t.cheapest(11), 1023);
    for (int s : NO_SLOTS) {
      refuses("23: cheapest", t, INDEX, () -> t.cheapest(s));
    }
  }

  /** One model alone, at the edges of what could stand together: each answer is plain then. */
  private static void singleModels() {
    int[] xs = {0, 1, 37, 63, 64, 448, 511, 512, 960, 1022, 1023};
    for (int x : xs) {
      Trellis t = new Trellis();
      t.below(1, 0, 10, x + 1);
      t.below(2, 0, 10, x);
      t.apply(0, 1, 2, 4);
      t.apply(3, 0, 0, 1);
      due("13: one model: SIZE", t.size(0), 10);
      tells("13: one model", t, 0, y -> y == x);
      due("15: one model", t.models(0), 1);
      due("15: all but one", t.models(3), 1023);
      due("16: one model", t.model(0, 0), x);
      due("16: all but one", t.model(3, 1022), x == 1023 ? 1022 : 1023);
      due("17: one model", t.support(0), 1023);
      due("18: one model and none", t.compare(0, 11), 2);
      due("18: none and one model", t.compare(11, 0), 1);
      due("18: one model and the others", t.compare(0, 3), 3);
      due("18: one model more", t.compare(2, 1), 1);
      t.apply(4, 1, 3, 6);
      due("18: one in common", t.compare(1, 4), x == 0 ? 1 : x == 1023 ? 2 : 4);
      due("23: one model", t.cheapest(0), x);
      due("28: one model", t.ways(0), 1);
      for (int v = 0; v < 10; v++) {
        due("19: one model", t.trend(0, v), one(x, v) ? 1 : 2);
        due("19: all but one", t.trend(3, v), one(x, v) ? 2 : 1);
        due("21: one model", t.influence(0, v), 2);
        for (int w = 0; w < 10; w++) {
          due("20: one model", t.isSymmetric(0, v, w), bit(x, v) == bit(x, w));
        }
      }
    }
  }

  // ---- promises 24 to 31

  private static void sizes() {
    Trellis t = pairs();
    due("24: size", t.size(0), 6);
    due("24: size", t.size(1), 2);
    due("24: of a constant", t.size(11), 0);
    farPairs(t, 6, 7);
    due("24: size", t.size(6), 62);
    t.swap(2);
    due("24: of which the order is another one", t.size(0), 6);
    t.swap(1);
    due("24: of which the order is another one", t.size(0), 8);
    for (int s : NO_SLOTS) {
      refuses("24: size", t, INDEX, () -> t.size(s));
    }
  }

  private static void totals() {
    Trellis t = pairs();
    due("25: total", t.total(), 10);
    t.apply(11, 0, 0, 8);
    due("25: the same function", t.total(), 10);
    t.constant(0, false);
    due("25: still there", t.total(), 10);
    t.constant(11, true);
    due("25: without it", t.total(), 6);
    t.constant(1, true);
    t.constant(2, true);
    t.constant(3, true);
    due("25: nothing left", t.total(), 0);
    Trellis f = full();
    due("25: it can be 400", f.total(), 400);
    refuseAnyPut(f);
    due("25: and is never more", f.total(), 400);
  }

  private static void levels() {
    Trellis t = pairs();
    int[] counts = {2, 2, 2, 2, 1, 1, 0, 0, 0, 0};
    for (int k = 0; k < 10; k++) {
      due("26: nodesAt " + k, t.nodesAt(k), counts[k]);
    }
    farPairs(t, 6, 7);
    t.constant(0, false);
    t.constant(1, false);
    t.constant(2, false);
    t.constant(3, false);
    int[] more = {1, 2, 4, 8, 16, 16, 8, 4, 2, 1};
    for (int k = 0; k < 10; k++) {
      due("26: nodesAt " + k, t.nodesAt(k), more[k]);
    }
    for (int level : NO_VARIABLES) {
      refuses("26: nodesAt", t, INDEX, () -> t.nodesAt(level));
    }
  }

  private static void sharing() {
    Trellis t = pairs();
    due("27: with itself", t.shared(0, 0), 6);
    due("27: with the last pair", t.shared(0, 3), 2);
    due("27: with the last pair", t.shared(3, 0), 2);
    due("27: with the first pair", t.shared(0, 1), 0);
    due("27: with a constant", t.shared(0, 11), 0);
    t.apply(11, 2, 3, 14);
    due("27: with both last ones", t.shared(0, 11), 4);
    for (int s : NO_SLOTS) {
      refuses("27: shared", t, INDEX, () -> t.shared(s, 0));
      refuses("27: shared", t, INDEX, () -> t.shared(0, s));
    }
  }

  private static void waysOver() {
    Trellis t = pairs();
    due("28: ways", t.ways(0), 1 + 2 * (1 + 2 * 1));
    due("28: ways", t.ways(1), 1);
    due("28: of 0", t.ways(11), 0);
    t.constant(11, true);
    due("28: of 1", t.ways(11), 1);
    t.variable(11, 9);
    for (int v = 0; v < 9; v++) {
      t.variable(10, v);
      t.apply(11, 11, 10, 6);
    }
    due("28: of an odd number", t.ways(11), 512);
    for (int s : NO_SLOTS) {
      refuses("28: ways", t, INDEX, () -> t.ways(s));
    }
  }

  private static void depths() {
    Trellis t = pairs();
    due("29: depth", t.depth(0), 6);
    due("29: depth", t.depth(1), 2);
    due("29: of 0", t.depth(11), 0);
    t.constant(11, true);
    due("29: of 1", t.depth(11), 0);
    t.variable(11, 9);
    due("29: of a variable", t.depth(11), 1);
    for (int v = 0; v < 6; v++) {
      t.variable(v, v);
    }
    t.apply(2, 2, 3, 8);
    t.choose(11, 0, 1, 2);
    due("29: the longest way", t.depth(11), 3);
    t.apply(2, 2, 2, 7);
    t.choose(11, 0, 2, 1);
    due("29: the longest way", t.depth(11), 3);
    farPairs(t, 6, 7);
    due("29: all", t.depth(6), 10);
    for (int s : NO_SLOTS) {
      refuses("29: depth", t, INDEX, () -> t.depth(s));
    }
  }

  private static void leastSizes() {
    Trellis t = pairs();
    due("30: leastSize", t.leastSize(0), 6);
    t.exchange(4, 0, 1, 4);
    due("30: of a bad order", t.size(4), 14);
    due("30: of the best one", t.leastSize(4), 6);
    t.exchange(4, 4, 2, 9);
    t.exchange(4, 4, 0, 8);
    due("30: six high variables", t.leastSize(4), 6);
    due("30: of a constant", t.leastSize(11), 0);
    t.variable(11, 9);
    due("30: of a variable", t.leastSize(11), 1);
    t.atLeast(11, 1023 - 8 - 32 - 64, 3);
    due("30: of seven variables", t.leastSize(11), -1);
    t.atLeast(11, 1023 - 8 - 32 - 64 - 1, 3);
    due("30: of six variables", t.leastSize(11), 12);
    farPairs(t, 6, 7);
    due("30: of ten variables", t.leastSize(6), -1);
    for (int s : NO_SLOTS) {
      refuses("30: leastSize", t, INDEX, () -> t.leastSize(s));
    }
  }

  private static void places() {
    Trellis t = pairs();
    t.swap(0);
    t.swap(8);
    int[] order = {1, 0, 2, 3, 4, 5, 6, 7, 9, 8};
    for (int k = 0; k < 10; k++) {
      due("31: variableAt " + k, t.variableAt(k), order[k]);
    }
    for (int level : NO_VARIABLES) {
      refuses("31: variableAt", t, INDEX, () -> t.variableAt(level));
    }
  }

  // ---- promises 32 to 38

  private static void swaps() {
    Trellis t = pairs();
    due("32: within a pair", t.swap(0), 10);
    due("32: across pairs", t.swap(1), 12);
    int[] order = {1, 2, 0, 3, 4, 5, 6, 7, 8, 9};
    for (int k = 0; k < 10; k++) {
      due("32: variableAt " + k, t.variableAt(k), order[k]);
    }
    tells("32: the functions stay", t, 0, x -> ofPairs(x));
    due("32: total", t.total(), 12);
    due("32: back", t.swap(1), 10);
    due("32: the last levels", t.swap(8), 10);
    due("32: variableAt", t.variableAt(9), 8);
    for (int level : new int[] {-1, 9, 10, Integer.MIN_VALUE, Integer.MAX_VALUE}) {
      refuses("32: swap", t, INDEX, () -> t.swap(level));
    }
    Trellis f = full();
    String before = stateOf(f);
    int refused = 0;
    for (int level = 0; level < 9; level++) {
      if (f.wouldSwap(level) < 0) {
        refused++;
        due("32: above 400", f.swap(level), -1);
        unchanged("32: a swap above 400", f, before);
      }
    }
    due("32: there was one above 400", refused > 0, true);
  }

  private static void sifts() {
    Trellis t = new Trellis();
    farPairs(t, 6, 7);
    due("33: sift", t.sift(5), 0);
    due("33: at its level", t.variableAt(0), 5);
    due("33: total", t.total(), 32);
    int[] order = {5, 0, 1, 2, 3, 4, 6, 7, 8, 9};
    for (int k = 0; k < 10; k++) {
      due("33: variableAt " + k, t.variableAt(k), order[k]);
    }
    due("33: of levels 2 to 5 and 9 the smallest", t.sift(9), 2);
    due("33: total", t.total(), 32);
    due("33: its partner", t.sift(4), 2);
    due("33: total", t.total(), 18);
    tells("33: the functions stay", t, 6, x -> ofFarPairs(x));
    Trellis empty = new Trellis();
    due("33: of several the smallest", empty.sift(7), 0);
    due("33: at its level", empty.variableAt(0), 7);
    due("33: at its level", empty.variableAt(7), 6);
    due("33: stays", empty.sift(7), 0);
    for (int v : NO_VARIABLES) {
      refuses("33: sift", t, INDEX, () -> t.sift(v));
    }
  }

  /** TOTAL is 400 and no variable has a better level: each has to stay, not to go to level 0. */
  private static void siftsAtTheLimit() {
    Trellis t = mixed(1151);
    t.settle();
    t.atLeast(10, 7, 1);
    due("33: TOTAL is 400", t.total(), 400);
    for (int level : new int[] {1, 2, 3, 4, 5, 6, 7, 8}) {
      int v = t.variableAt(level);
      due("36: stays at the limit", t.wouldSift(v), level);
      due("33: stays at the limit", t.sift(v), level);
      due("33: TOTAL stays", t.total(), 400);
    }
  }

  private static void settling() {
    Trellis t = new Trellis();
    due("34: of nothing", t.settle(), 0);
    int[] turned = {9, 8, 7, 6, 5, 4, 3, 2, 1, 0};
    for (int k = 0; k < 10; k++) {
      due("34: each goes to the front, one by one", t.variableAt(k), turned[k]);
    }
    Trellis far = new Trellis();
    farPairs(far, 6, 7);
    due("34: settle", far.settle(), 52);
    due("34: total", far.total(), 10);
    tells("34: the functions stay", far, 6, x -> ofFarPairs(x));
    due("34: again", far.settle(), 0);
    Trellis two = new Trellis();
    two.variable(0, 4);
    two.variable(1, 6);
    two.settle();
    int[] first = {9, 8, 7, 5, 3, 2, 1, 0, 6, 4};
    for (int k = 0; k < 10; k++) {
      due("34: most nodes first", two.variableAt(k), first[k]);
    }
  }

  private static void swapsThatWouldBe() {
    Trellis t = pairs();
    String before = stateOf(t);
    int[] due = {10, 12, 10, 11, 10, 10, 10, 10, 10};
    for (int level = 0; level < 9; level++) {
      due("35: wouldSwap " + level, t.wouldSwap(level), due[level]);
    }
    unchanged("35: wouldSwap", t, before);
    Trellis f = full();
    String full = stateOf(f);
    for (int level = 0; level < 9; level++) {
      Trellis g = full();
      due("35: as swap() tells", f.wouldSwap(level), g.swap(level));
    }
    unchanged("35: wouldSwap", f, full);
    for (int level : new int[] {-1, 9, 10, Integer.MIN_VALUE, Integer.MAX_VALUE}) {
      refuses("35: wouldSwap", t, INDEX, () -> t.wouldSwap(level));
    }
  }

  private static void siftsThatWouldBe() {
    Trellis t = new Trellis();
    farPairs(t, 6, 7);
    String before = stateOf(t);
    for (int v = 0; v < 10; v++) {
      Trellis u = new Trellis();
      farPairs(u, 6, 7);
      due("36: as sift() tells", t.wouldSift(v), u.sift(v));
    }
    due("36: wouldSift", t.wouldSift(5), 0);
    unchanged("36: wouldSift", t, before);
    due("36: of nothing", new Trellis().wouldSift(9), 0);
    Trellis f = full();
    String full = stateOf(f);
    for (int v = 0; v < 10; v++) {
      Trellis g = full();
      due("36: as sift() tells", f.wouldSift(v), g.sift(v));
      due("36: never above 400", g.total() <= 400, true);
    }
    unchanged("36: wouldSift", f, full);
    for (int v : NO_VARIABLES) {
      refuses("36: wouldSift", t, INDEX, () -> t.wouldSift(v));
    }
  }

  private static void means() {
    Trellis t = pairs();
    due("37: meanSize", t.meanSize() == (6 + 2 + 2 + 2) / 12.0, true);
    t.variable(11, 3);
    due("37: not cut", t.meanSize() == 13 / 12.0, true);
    due("37: of nothing", new Trellis().meanSize() == 0.0, true);
  }

  private static long digestAsTold(Trellis t) {
    long d = 58029;
    d = d * 31 + t.total();
    for (int k = 0; k < 10; k++) {
      d = (d * 31 + t.variableAt(k)) * 31 + t.nodesAt(k);
    }
    for (int s = 0; s < 12; s++) {
      long[] xs = {t.models(s), t.support(s), t.size(s), t.ways(s), t.depth(s), t.cheapest(s),
          t.model(s, 0), t.model(s, 7), t.model(s, 100)};
      for (long x : xs) {
        d = d * 31 + x;
      }
    }
    for (int s = 0; s < 11; s++) {
      d = (d * 31 + t.compare(s, s + 1)) * 31 + t.shared(s, s + 1);
    }
    for (int s = 0; s < 12; s++) {
      for (int v = 0; v < 10; v++) {
        d = (d * 31 + t.trend(s, v)) * 31 + t.influence(s, v);
      }
    }
    return d;
  }

  private static void digests() {
    for (Trellis t : new Trellis[] {new Trellis(), variables(), pairs(), full()}) {
      due("38: digest", t.digest(), digestAsTold(t));
      due("38: digest again", t.digest(), digestAsTold(t));
    }
  }

  // ---- TOTAL above 400, for each way of making functions

  /** A put that needs one node more, or a few, tells -1 here; any of these calls is one. */
  private static void refuseAnyPut(Trellis f) {
    int refused = 0;
    for (int v = 0; v < 10; v++) {
      refused += f.variable(11, v) < 0 ? 1 : 0;
      f.constant(11, false);
    }
    for (int k = 3; k < 7; k++) {
      refused += f.atLeast(11, 1023, k) < 0 ? 1 : 0;
      f.constant(11, false);
    }
    due("2: a put above 400 was told -1", refused > 0, true);
  }

  private static void above400() {
    Trellis f = full();
    due("2: TOTAL is 400", f.total(), 400);
    due("2: constant 1 is never above", f.constant(11, true), 0);
    due("2: constant 0 is never above", f.constant(11, false), 0);
    String before = stateOf(f);
    int[] times = new int[12];
    for (int a = 0; a < 11; a++) {
      for (int b = 0; b < 11; b++) {
        for (int kind = 0; kind < 12; kind++) {
          int got = tryPut(f, kind, a, b);
          if (got == -1) {
            times[kind]++;
            if (times[kind] < 4) {
              unchanged("-1 of kind " + kind, f, before);
            }
          }
          f.constant(11, false);
        }
      }
    }
    String[] names = {"apply", "choose", "put", "compose", "quantify", "meet", "exchange", "press",
        "atLeast", "below", "apply", "variable"};
    for (int kind = 0; kind < 12; kind++) {
      due("TOTAL above 400 by " + names[kind], times[kind] > 0, true);
    }
    unchanged("puts into a full store", f, before);
  }

  private static int tryPut(Trellis f, int kind, int a, int b) {
    switch (kind) {
      case 0: return f.apply(11, a, b, 6);
      case 1: return f.choose(11, a, b, 0);
      case 2: return f.put(11, a, b % 10, true);
      case 3: return f.compose(11, a, b % 10, 1);
      case 4: return f.quantify(11, a, 1 << b % 10, 0);
      case 5: return f.meet(11, a, b, 1);
      case 6: return f.exchange(11, a, b % 10, 9);
      case 7: return f.models(b) == 0 ? 0 : f.press(11, a, b);
      case 8: return f.atLeast(11, 1023, 1 + b % 10);
      case 9: return f.below(11, 0, 10, 341 + b);
      case 10: return f.apply(11, a, b, 8);
      default: return f.variable(11, b % 10);
    }
  }

  public static void main(String[] args) {
    newObject();
    constants();
    variablesOfSlots();
    tables();
    choices();
    puts();
    compositions();
    quantifiers();
    meetings();
    exchanges();
    presses();
    thresholds();
    numbers();
    holding();
    counting();
    listing();
    supports();
    comparing();
    trends();
    symmetry();
    influences();
    costs();
    cheapestModels();
    singleModels();
    sizes();
    totals();
    levels();
    sharing();
    waysOver();
    depths();
    leastSizes();
    places();
    swaps();
    sifts();
    siftsAtTheLimit();
    settling();
    swapsThatWouldBe();
    siftsThatWouldBe();
    means();
    digests();
    above400();
    end("PromiseTest");
  }
}
