/** Every method of the face, with the kinds of its arguments, on Trellis and on SlowTrellis. */
enum Call {
  CONSTANT((t, p) -> t.constant(p[0], p[1] == 1), (s, p) -> s.constant(p[0], p[1] == 1),
      Kind.SLOT, Kind.FLAG),
  VARIABLE((t, p) -> t.variable(p[0], p[1]), (s, p) -> s.variable(p[0], p[1]),
      Kind.SLOT, Kind.VARIABLE),
  APPLY((t, p) -> t.apply(p[0], p[1], p[2], p[3]), (s, p) -> s.apply(p[0], p[1], p[2], p[3]),
      Kind.SLOT, Kind.SLOT, Kind.SLOT, Kind.TABLE),
  CHOOSE((t, p) -> t.choose(p[0], p[1], p[2], p[3]), (s, p) -> s.choose(p[0], p[1], p[2], p[3]),
      Kind.SLOT, Kind.SLOT, Kind.SLOT, Kind.SLOT),
  PUT((t, p) -> t.put(p[0], p[1], p[2], p[3] == 1), (s, p) -> s.put(p[0], p[1], p[2], p[3] == 1),
      Kind.SLOT, Kind.SLOT, Kind.VARIABLE, Kind.FLAG),
  COMPOSE((t, p) -> t.compose(p[0], p[1], p[2], p[3]), (s, p) -> s.compose(p[0], p[1], p[2], p[3]),
      Kind.SLOT, Kind.SLOT, Kind.VARIABLE, Kind.SLOT),
  QUANTIFY((t, p) -> t.quantify(p[0], p[1], p[2], p[3]),
      (s, p) -> s.quantify(p[0], p[1], p[2], p[3]),
      Kind.SLOT, Kind.SLOT, Kind.SET, Kind.WAY),
  MEET((t, p) -> t.meet(p[0], p[1], p[2], p[3]), (s, p) -> s.meet(p[0], p[1], p[2], p[3]),
      Kind.SLOT, Kind.SLOT, Kind.SLOT, Kind.SET),
  EXCHANGE((t, p) -> t.exchange(p[0], p[1], p[2], p[3]),
      (s, p) -> s.exchange(p[0], p[1], p[2], p[3]),
      Kind.SLOT, Kind.SLOT, Kind.VARIABLE, Kind.VARIABLE),
  PRESS((t, p) -> t.press(p[0], p[1], p[2]), (s, p) -> s.press(p[0], p[1], p[2]),
      Kind.SLOT, Kind.SLOT, Kind.SLOT),
  AT_LEAST((t, p) -> t.atLeast(p[0], p[1], p[2]), (s, p) -> s.atLeast(p[0], p[1], p[2]),
      Kind.SLOT, Kind.SET, Kind.LEAST),
  BELOW((t, p) -> t.below(p[0], p[1], p[2], p[3]), (s, p) -> s.below(p[0], p[1], p[2], p[3]),
      Kind.SLOT, Kind.VARIABLE, Kind.BITS, Kind.THAN),
  HOLDS((t, p) -> t.holds(p[0], p[1]) ? 1 : 0, (s, p) -> s.holds(p[0], p[1]),
      Kind.SLOT, Kind.ASSIGNMENT),
  MODELS((t, p) -> t.models(p[0]), (s, p) -> s.models(p[0]), Kind.SLOT),
  MODEL((t, p) -> t.model(p[0], p[1]), (s, p) -> s.model(p[0], p[1]), Kind.SLOT, Kind.NUMBER),
  SUPPORT((t, p) -> t.support(p[0]), (s, p) -> s.support(p[0]), Kind.SLOT),
  COMPARE((t, p) -> t.compare(p[0], p[1]), (s, p) -> s.compare(p[0], p[1]), Kind.SLOT, Kind.SLOT),
  TREND((t, p) -> t.trend(p[0], p[1]), (s, p) -> s.trend(p[0], p[1]), Kind.SLOT, Kind.VARIABLE),
  IS_SYMMETRIC((t, p) -> t.isSymmetric(p[0], p[1], p[2]) ? 1 : 0,
      (s, p) -> s.isSymmetric(p[0], p[1], p[2]),
      Kind.SLOT, Kind.VARIABLE, Kind.VARIABLE),
  INFLUENCE((t, p) -> t.influence(p[0], p[1]), (s, p) -> s.influence(p[0], p[1]),
      Kind.SLOT, Kind.VARIABLE),
  SET_COST((t, p) -> t.setCost(p[0], p[1]), (s, p) -> s.setCost(p[0], p[1]),
      Kind.VARIABLE, Kind.COST),
  CHEAPEST((t, p) -> t.cheapest(p[0]), (s, p) -> s.cheapest(p[0]), Kind.SLOT),
  SIZE((t, p) -> t.size(p[0]), (s, p) -> s.size(p[0]), Kind.SLOT),
  TOTAL((t, p) -> t.total(), (s, p) -> s.total()),
  NODES_AT((t, p) -> t.nodesAt(p[0]), (s, p) -> s.nodesAt(p[0]), Kind.LEVEL),
  SHARED((t, p) -> t.shared(p[0], p[1]), (s, p) -> s.shared(p[0], p[1]), Kind.SLOT, Kind.SLOT),
  WAYS((t, p) -> t.ways(p[0]), (s, p) -> s.ways(p[0]), Kind.SLOT),
  DEPTH((t, p) -> t.depth(p[0]), (s, p) -> s.depth(p[0]), Kind.SLOT),
  LEAST_SIZE((t, p) -> t.leastSize(p[0]), (s, p) -> s.leastSize(p[0]), Kind.SLOT),
  VARIABLE_AT((t, p) -> t.variableAt(p[0]), (s, p) -> s.variableAt(p[0]), Kind.LEVEL),
  SWAP((t, p) -> t.swap(p[0]), (s, p) -> s.swap(p[0]), Kind.UPPER_LEVEL),
  SIFT((t, p) -> t.sift(p[0]), (s, p) -> s.sift(p[0]), Kind.VARIABLE),
  SETTLE((t, p) -> t.settle(), (s, p) -> s.settle()),
  WOULD_SWAP((t, p) -> t.wouldSwap(p[0]), (s, p) -> s.wouldSwap(p[0]), Kind.UPPER_LEVEL),
  WOULD_SIFT((t, p) -> t.wouldSift(p[0]), (s, p) -> s.wouldSift(p[0]), Kind.VARIABLE),
  MEAN_SIZE((t, p) -> t.meanSize(), (s, p) -> s.meanSize()),
  DIGEST((t, p) -> t.digest(), (s, p) -> s.digest());

  interface Asked<S> {
    Number of(S store, int[] p);
  }

  private final Asked<Trellis> fast;
  private final Asked<SlowTrellis> slow;
  final Kind[] kinds;

  Call(Asked<Trellis> fast, Asked<SlowTrellis> slow, Kind... kinds) {
    this.fast = fast;
    this.slow = slow;
    this.kinds = kinds;
  }

  /** Whether it puts a function into a slot. */
  boolean makes() {
    return ordinal() <= BELOW.ordinal();
  }

  /** What the call tells, or the name of what it throws. */
  String on(Trellis t, int... p) {
    return told(fast, t, p);
  }

  String on(SlowTrellis s, int... p) {
    return told(slow, s, p);
  }

  private static <S> String told(Asked<S> asked, S store, int[] p) {
    try {
      return asked.of(store, p).toString();
    } catch (RuntimeException e) {
      return "throws." + e.getClass().getName();
    }
  }
}
