/**
 * A store of decision diagrams: functions of ten variables in twelve slots, with the diagrams that
 * they have together in the present order of the variables.
 */
public final class Trellis {
  private static final int SLOTS = 12;
  private static final int VARIABLES = 10;
  private static final int ASSIGNMENTS = 1 << VARIABLES;
  private static final int LIMIT = 400;
  private static final int DEAREST = 99;
  private static final int FEW = 6;

  private final Table[] functions = new Table[SLOTS];
  private final int[] supports = new int[SLOTS];
  private final Diagram diagram = new Diagram();
  private final Orders orders = new Orders();
  private final Table work = new Table();
  private final Table aid = new Table();
  private final Table spare = new Table();
  private final int[] costs = new int[VARIABLES];
  private final int[] costOf = new int[ASSIGNMENTS];
  private final int[] weights = new int[VARIABLES];

  public Trellis() {
    for (int slot = 0; slot < SLOTS; slot++) {
      functions[slot] = new Table();
    }
  }

  // ---- making functions

  public int constant(int slot, boolean isOne) throws IndexOutOfBoundsException {
    checkSlot(slot);
    work.fill(isOne);
    return place(slot);
  }

  public int variable(int slot, int variable) throws IndexOutOfBoundsException {
    checkSlot(slot);
    checkVariable(variable);
    for (int w = 0; w < Table.WORDS; w++) {
      work.words[w] = Table.wordOfVariable(variable, w);
    }
    return place(slot);
  }

  public int apply(int slot, int a, int b, int table)
      throws IndexOutOfBoundsException, IllegalArgumentException {
    checkSlot(slot);
    checkSlot(a);
    checkSlot(b);
    if (table < 0 || table > 15) {
      throw new IllegalArgumentException("the table is 0 to 15");
    }
    long[] f = functions[a].words;
    long[] g = functions[b].words;
    for (int w = 0; w < Table.WORDS; w++) {
      work.words[w] = Table.wordByTable(f[w], g[w], table);
    }
    return place(slot);
  }

  public int choose(int slot, int a, int b, int c) throws IndexOutOfBoundsException {
    checkSlot(slot);
    checkSlot(a);
    checkSlot(b);
    checkSlot(c);
    long[] f = functions[a].words;
    long[] g = functions[b].words;
    long[] h = functions[c].words;
    for (int w = 0; w < Table.WORDS; w++) {
      work.words[w] = (f[w] & g[w]) | (~f[w] & h[w]);
    }
    return place(slot);
  }

  public int put(int slot, int a, int variable, boolean isOne) throws IndexOutOfBoundsException {
    checkSlot(slot);
    checkSlot(a);
    checkVariable(variable);
    Table f = functions[a];
    for (int w = 0; w < Table.WORDS; w++) {
      work.words[w] = f.wordWith(variable, isOne, w);
    }
    return place(slot);
  }

  public int compose(int slot, int a, int variable, int b) throws IndexOutOfBoundsException {
    checkSlot(slot);
    checkSlot(a);
    checkVariable(variable);
    checkSlot(b);
    Table f = functions[a];
    long[] g = functions[b].words;
    for (int w = 0; w < Table.WORDS; w++) {
      work.words[w] = (g[w] & f.wordWith(variable, true, w)) | (~g[w] & f.wordWith(variable, false, w));
    }
    return place(slot);
  }

  public int quantify(int slot, int a, int set, int way)
      throws IndexOutOfBoundsException, IllegalArgumentException {
    checkSlot(slot);
    checkSlot(a);
    checkSet(set);
    if (way < 0 || way > 2) {
      throw new IllegalArgumentException("the way is 0 to 2");
    }
    work.copy(functions[a]);
    work.foldSet(set, way, spare);
    return place(slot);
  }

  public int meet(int slot, int a, int b, int set)
      throws IndexOutOfBoundsException, IllegalArgumentException {
    checkSlot(slot);
    checkSlot(a);
    checkSlot(b);
    checkSet(set);
    long[] f = functions[a].words;
    long[] g = functions[b].words;
    for (int w = 0; w < Table.WORDS; w++) {
      work.words[w] = f[w] & g[w];
    }
    work.foldSet(set, Table.ANY, spare);
    return place(slot);
  }

  public int exchange(int slot, int a, int v, int w) throws IndexOutOfBoundsException {
    checkSlot(slot);
    checkSlot(a);
    checkVariable(v);
    checkVariable(w);
    work.crossed(functions[a], v, w, spare);
    return place(slot);
  }

  public int press(int slot, int a, int b) throws IndexOutOfBoundsException, IllegalStateException {
    checkSlot(slot);
    checkSlot(a);
    checkSlot(b);
    if (functions[b].count() == 0) {
      throw new IllegalStateException("the function of b has no models");
    }
    // From the last level up: aid tells where b has a model that agrees at all levels above, and
    // work what a tells for the nearest one of those, wherever aid tells 1.
    work.copy(functions[a]);
    aid.copy(functions[b]);
    for (int level = VARIABLES - 1; level >= 0; level--) {
      int variable = diagram.variableOf(level);
      work.lean(aid, variable, spare);
      aid.fold(variable, Table.ANY, spare);
    }
    return place(slot);
  }

  public int atLeast(int slot, int set, int least)
      throws IndexOutOfBoundsException, IllegalArgumentException {
    checkSlot(slot);
    checkSet(set);
    if (least < 0 || least > 11) {
      throw new IllegalArgumentException("least is 0 to 11");
    }
    work.fill(false);
    for (int x = 0; x < ASSIGNMENTS; x++) {
      if (Integer.bitCount(x & set) >= least) {
        work.add(x);
      }
    }
    return place(slot);
  }

  public int below(int slot, int first, int bits, int than)
      throws IndexOutOfBoundsException, IllegalArgumentException {
    checkSlot(slot);
    checkVariable(first);
    if (bits < 1 || bits > VARIABLES - first) {
      throw new IllegalArgumentException("bits is 1 to 10 - first");
    }
    if (than < 0 || than > ASSIGNMENTS) {
      throw new IllegalArgumentException("than is 0 to 1024");
    }
    work.fill(false);
    int mask = (1 << bits) - 1;
    for (int x = 0; x < ASSIGNMENTS; x++) {
      if (((x >> first) & mask) < than) {
        work.add(x);
      }
    }
    return place(slot);
  }

  // ---- asking functions

  public boolean holds(int a, int assignment)
      throws IndexOutOfBoundsException, IllegalArgumentException {
    checkSlot(a);
    if (assignment < 0 || assignment >= ASSIGNMENTS) {
      throw new IllegalArgumentException("an assignment is 0 to 1023");
    }
    return functions[a].tells(assignment);
  }

  public int models(int a) throws IndexOutOfBoundsException {
    checkSlot(a);
    return functions[a].count();
  }

  public int model(int a, int number) throws IndexOutOfBoundsException, IllegalArgumentException {
    checkSlot(a);
    if (number < 0) {
      throw new IllegalArgumentException("a number is 0 or more");
    }
    return functions[a].nth(number);
  }

  public int support(int a) throws IndexOutOfBoundsException {
    checkSlot(a);
    return supports[a];
  }

  public int compare(int a, int b) throws IndexOutOfBoundsException {
    checkSlot(a);
    checkSlot(b);
    long[] f = functions[a].words;
    long[] g = functions[b].words;
    long onlyA = 0;
    long onlyB = 0;
    long both = 0;
    for (int w = 0; w < Table.WORDS; w++) {
      onlyA |= f[w] & ~g[w];
      onlyB |= g[w] & ~f[w];
      both |= f[w] & g[w];
    }
    if (onlyA == 0) {
      return onlyB == 0 ? 0 : 1;
    }
    if (onlyB == 0) {
      return 2;
    }
    return both == 0 ? 3 : 4;
  }

  public int trend(int a, int variable) throws IndexOutOfBoundsException {
    checkSlot(a);
    checkVariable(variable);
    Table f = functions[a];
    long rises = 0;
    long falls = 0;
    for (int w = 0; w < Table.WORDS; w++) {
      long before = f.wordWith(variable, false, w);
      long after = f.wordWith(variable, true, w);
      rises |= ~before & after;
      falls |= before & ~after;
    }
    return (rises != 0 ? 1 : 0) + (falls != 0 ? 2 : 0);
  }

  public boolean isSymmetric(int a, int v, int w) throws IndexOutOfBoundsException {
    checkSlot(a);
    checkVariable(v);
    checkVariable(w);
    work.crossed(functions[a], v, w, spare);
    return work.isSame(functions[a]);
  }

  public int influence(int a, int variable) throws IndexOutOfBoundsException {
    checkSlot(a);
    checkVariable(variable);
    return functions[a].changes(variable);
  }

  public int setCost(int variable, int cost)
      throws IndexOutOfBoundsException, IllegalArgumentException {
    checkVariable(variable);
    if (cost < 0 || cost > DEAREST) {
      throw new IllegalArgumentException("a cost is 0 to 99");
    }
    int before = costs[variable];
    costs[variable] = cost;
    for (int x = 0; x < ASSIGNMENTS; x++) {
      if (((x >> variable) & 1) == 1) {
        costOf[x] += cost - before;
      }
    }
    return before;
  }

  public int cheapest(int a) throws IndexOutOfBoundsException {
    checkSlot(a);
    Table f = functions[a];
    int best = -1;
    int least = VARIABLES * DEAREST + 1;
    for (int x = 0; x < ASSIGNMENTS; x++) {
      if (costOf[x] < least && f.tells(x)) {
        least = costOf[x];
        best = x;
      }
    }
    return best;
  }

  // ---- asking diagrams

  public int size(int a) throws IndexOutOfBoundsException {
    checkSlot(a);
    return diagram.countFrom(a, a);
  }

  public int total() {
    return diagram.count();
  }

  public int nodesAt(int level) throws IndexOutOfBoundsException {
    checkLevel(level, VARIABLES);
    return diagram.countAt(level);
  }

  public int shared(int a, int b) throws IndexOutOfBoundsException {
    checkSlot(a);
    checkSlot(b);
    return diagram.countFrom(a, a) + diagram.countFrom(b, b) - diagram.countFrom(a, b);
  }

  public int ways(int a) throws IndexOutOfBoundsException {
    checkSlot(a);
    return diagram.pathsToOne(a);
  }

  public int depth(int a) throws IndexOutOfBoundsException {
    checkSlot(a);
    return diagram.longestPath(a);
  }

  public int leastSize(int a) throws IndexOutOfBoundsException {
    checkSlot(a);
    int set = supports[a];
    int many = Integer.bitCount(set);
    return many > FEW ? -1 : orders.leastNodes(functions[a].packed(set), many);
  }

  // ---- ordering

  public int variableAt(int level) throws IndexOutOfBoundsException {
    checkLevel(level, VARIABLES);
    return diagram.variableOf(level);
  }

  public int swap(int level) throws IndexOutOfBoundsException {
    checkLevel(level, VARIABLES - 1);
    diagram.exchangeAt(level);
    if (diagram.count() > LIMIT) {
      diagram.exchangeAt(level);
      return -1;
    }
    return diagram.count();
  }

  public int sift(int variable) throws IndexOutOfBoundsException {
    checkVariable(variable);
    return siftOne(variable);
  }

  public int settle() {
    int before = diagram.count();
    for (int variable = 0; variable < VARIABLES; variable++) {
      weights[variable] = diagram.countAt(diagram.levelOf(variable));
    }
    for (int turn = 0; turn < VARIABLES; turn++) {
      int next = heaviest();
      weights[next] = -1;
      siftOne(next);
    }
    return before - diagram.count();
  }

  public int wouldSwap(int level) throws IndexOutOfBoundsException {
    checkLevel(level, VARIABLES - 1);
    diagram.exchangeAt(level);
    int then = diagram.count();
    diagram.exchangeAt(level);
    return then > LIMIT ? -1 : then;
  }

  public int wouldSift(int variable) throws IndexOutOfBoundsException {
    checkVariable(variable);
    int home = diagram.levelOf(variable);
    diagram.lift(variable, 0);
    int best = diagram.walk();
    diagram.lift(variable, home);
    return best;
  }

  public double meanSize() {
    int sum = 0;
    for (int slot = 0; slot < SLOTS; slot++) {
      sum += diagram.countFrom(slot, slot);
    }
    return (double) sum / SLOTS;
  }

  public long digest() {
    long d = 58029;
    d = d * 31 + total();
    for (int level = 0; level < VARIABLES; level++) {
      d = d * 31 + variableAt(level);
      d = d * 31 + nodesAt(level);
    }
    for (int slot = 0; slot < SLOTS; slot++) {
      d = digestOfSlot(d, slot);
    }
    for (int slot = 0; slot < SLOTS - 1; slot++) {
      d = d * 31 + compare(slot, slot + 1);
      d = d * 31 + shared(slot, slot + 1);
    }
    for (int slot = 0; slot < SLOTS; slot++) {
      for (int variable = 0; variable < VARIABLES; variable++) {
        d = d * 31 + trend(slot, variable);
        d = d * 31 + influence(slot, variable);
      }
    }
    return d;
  }

  // ---- what the calls have in common

  private long digestOfSlot(long before, int slot) {
    long d = before;
    d = d * 31 + models(slot);
    d = d * 31 + support(slot);
    d = d * 31 + size(slot);
    d = d * 31 + ways(slot);
    d = d * 31 + depth(slot);
    d = d * 31 + cheapest(slot);
    d = d * 31 + model(slot, 0);
    d = d * 31 + model(slot, 7);
    d = d * 31 + model(slot, 100);
    return d;
  }

  /** Puts what work tells into the slot, unless TOTAL would be above the limit. */
  private int place(int slot) {
    int set = work.dependsOn();
    diagram.setRoot(slot, diagram.build(work, set));
    if (diagram.count() > LIMIT) {
      diagram.setRoot(slot, diagram.build(functions[slot], supports[slot]));
      return -1;
    }
    functions[slot].copy(work);
    supports[slot] = set;
    return diagram.countFrom(slot, slot);
  }

  private int siftOne(int variable) {
    diagram.lift(variable, 0);
    int best = diagram.walk();
    diagram.lift(variable, best);
    return best;
  }

  private int heaviest() {
    int best = 0;
    for (int variable = 1; variable < VARIABLES; variable++) {
      if (weights[variable] > weights[best]) {
        best = variable;
      }
    }
    return best;
  }

  private static void checkSlot(int slot) {
    if (slot < 0 || slot >= SLOTS) {
      throw new IndexOutOfBoundsException("no such slot");
    }
  }

  private static void checkVariable(int variable) {
    if (variable < 0 || variable >= VARIABLES) {
      throw new IndexOutOfBoundsException("no such variable");
    }
  }

  private static void checkLevel(int level, int levels) {
    if (level < 0 || level >= levels) {
      throw new IndexOutOfBoundsException("no such level");
    }
  }

  private static void checkSet(int set) {
    if (set < 0 || set >= ASSIGNMENTS) {
      throw new IllegalArgumentException("a set is 0 to 1023");
    }
  }

  /** A function: what it tells for the assignment x is the bit x % 64 of the word x / 64. */
  private static final class Table {
    static final int WORDS = 16;
    static final int ANY = 0;
    private static final int ALL = 1;
    // The variables 0 to 5 are told by the place in the word, the others by the word's number.
    private static final int INSIDE = 6;
    private static final long[] PATTERNS = {
      0xAAAAAAAAAAAAAAAAL, 0xCCCCCCCCCCCCCCCCL, 0xF0F0F0F0F0F0F0F0L,
      0xFF00FF00FF00FF00L, 0xFFFF0000FFFF0000L, 0xFFFFFFFF00000000L
    };

    final long[] words = new long[WORDS];

    Table() {
    }

    /** What the variable itself tells for the assignments of the word w. */
    static long wordOfVariable(int variable, int w) {
      if (variable >= 0 && variable < INSIDE) {
        return PATTERNS[variable];
      }
      return ((w >> (variable - INSIDE)) & 1) == 1 ? -1L : 0L;
    }

    static long wordByTable(long x, long y, int table) {
      long told = 0;
      if ((table & 1) != 0) {
        told |= ~x & ~y;
      }
      if ((table & 2) != 0) {
        told |= ~x & y;
      }
      if ((table & 4) != 0) {
        told |= x & ~y;
      }
      if ((table & 8) != 0) {
        told |= x & y;
      }
      return told;
    }

    /** What is told for the assignments of the word w with the variable's value changed. */
    private long wordAcross(int variable, int w) {
      if (variable >= 0 && variable < INSIDE) {
        int far = 1 << variable;
        long ones = PATTERNS[variable];
        return ((words[w] & ones) >>> far) | ((words[w] << far) & ones);
      }
      int partner = w ^ (1 << (variable - INSIDE));
      return partner >= 0 && partner < WORDS ? words[partner] : 0L;
    }

    /** What is told for the assignments of the word w with the variable put to a value. */
    long wordWith(int variable, boolean isOne, int w) {
      long ones = wordOfVariable(variable, w);
      long kept = isOne ? ones : ~ones;
      return (words[w] & kept) | (wordAcross(variable, w) & ~kept);
    }

    void fill(boolean isOne) {
      for (int w = 0; w < WORDS; w++) {
        words[w] = isOne ? -1L : 0L;
      }
    }

    void copy(Table f) {
      System.arraycopy(f.words, 0, words, 0, WORDS);
    }

    boolean isSame(Table f) {
      for (int w = 0; w < WORDS; w++) {
        if (words[w] != f.words[w]) {
          return false;
        }
      }
      return true;
    }

    boolean tells(int x) {
      return x >= 0 && x < ASSIGNMENTS && ((words[x >> 6] >>> (x & 63)) & 1L) == 1L;
    }

    void add(int x) {
      if (x >= 0 && x < ASSIGNMENTS) {
        words[x >> 6] |= 1L << (x & 63);
      }
    }

    int count() {
      int sum = 0;
      for (int w = 0; w < WORDS; w++) {
        sum += Long.bitCount(words[w]);
      }
      return sum;
    }

    int nth(int number) {
      int left = number;
      for (int w = 0; w < WORDS; w++) {
        int here = Long.bitCount(words[w]);
        if (left < here) {
          return w * 64 + nthInWord(words[w], left);
        }
        left -= here;
      }
      return -1;
    }

    private static int nthInWord(long word, int number) {
      long rest = word;
      for (int i = 0; i < number; i++) {
        rest &= rest - 1;
      }
      return Long.bitCount(~rest & (rest - 1));
    }

    int changes(int variable) {
      int sum = 0;
      for (int w = 0; w < WORDS; w++) {
        sum += Long.bitCount(words[w] ^ wordAcross(variable, w));
      }
      return sum;
    }

    int dependsOn() {
      int set = 0;
      for (int variable = 0; variable < VARIABLES; variable++) {
        if (isMovedBy(variable)) {
          set |= 1 << variable;
        }
      }
      return set;
    }

    private boolean isMovedBy(int variable) {
      for (int w = 0; w < WORDS; w++) {
        if (words[w] != wordAcross(variable, w)) {
          return true;
        }
      }
      return false;
    }

    void foldSet(int set, int way, Table spare) {
      for (int variable = 0; variable < VARIABLES; variable++) {
        if (((set >> variable) & 1) == 1) {
          fold(variable, way, spare);
        }
      }
    }

    /** Quantifies one variable: whether any, all, or an odd number of both values make it 1. */
    void fold(int variable, int way, Table spare) {
      spare.copy(this);
      for (int w = 0; w < WORDS; w++) {
        long x = spare.words[w];
        long y = spare.wordAcross(variable, w);
        words[w] = way == ANY ? x | y : way == ALL ? x & y : x ^ y;
      }
    }

    /** Takes, wherever there tells 0, what is told with the variable's value changed. */
    void lean(Table there, int variable, Table spare) {
      spare.copy(this);
      for (int w = 0; w < WORDS; w++) {
        long stays = there.words[w];
        words[w] = (spare.words[w] & stays) | (spare.wordAcross(variable, w) & ~stays);
      }
    }

    /** Becomes f with the values of two variables exchanged: both change where they differ. */
    void crossed(Table f, int v, int u, Table spare) {
      for (int w = 0; w < WORDS; w++) {
        spare.words[w] = f.wordAcross(v, w);
      }
      for (int w = 0; w < WORDS; w++) {
        long differ = wordOfVariable(v, w) ^ wordOfVariable(u, w);
        words[w] = (f.words[w] & ~differ) | (spare.wordAcross(u, w) & differ);
      }
    }

    /** The function of the variables of the set alone, six at most, the smallest one as bit 0. */
    long packed(int set) {
      long bits = 0;
      int x = 0;
      for (int i = 0; i < 64; i++) {
        if (tells(x)) {
          bits |= 1L << i;
        }
        x = (x - set) & set;
      }
      return bits;
    }
  }

  /**
   * The NODES of all slots, each once, with the ORDER. A node is a number; 0 and 1 are the
   * functions that tell 0 and 1 always. A node lives as long as a slot or a node points to it.
   */
  private static final class Diagram {
    private static final int FIRST = 2;
    // In any ORDER the levels hold at most 12, 24, 48, 96, 192, 384, 768, 240, 12 and 2 nodes,
    // 1778 together; exchanging two levels makes up to 768 more before it lets the old ones go.
    private static final int CAPACITY = 2560;
    private static final int BUCKETS = 64;

    private final int[] order = new int[VARIABLES];
    private final int[] roots = new int[SLOTS];
    private final int[] counts = new int[VARIABLES];
    private final int[] buckets = new int[VARIABLES * BUCKETS];
    private final int[] levels = new int[CAPACITY];
    private final int[] lows = new int[CAPACITY];
    private final int[] highs = new int[CAPACITY];
    // The next node of the same bucket, or the next free place; 0 ends a chain.
    private final int[] nexts = new int[CAPACITY];
    private final int[] pointers = new int[CAPACITY];
    private final int[] stamps = new int[CAPACITY];
    private final int[] values = new int[CAPACITY];
    private final int[] list = new int[CAPACITY];
    private final int[] rows = new int[ASSIGNMENTS];
    private int free = FIRST;
    private int nodes;
    private int stamp;
    private int listed;

    Diagram() {
      for (int level = 0; level < VARIABLES; level++) {
        order[level] = level;
      }
      for (int node = FIRST; node < CAPACITY - 1; node++) {
        nexts[node] = node + 1;
      }
    }

    int count() {
      return nodes;
    }

    int countAt(int level) {
      return isLevel(level) ? counts[level] : 0;
    }

    int variableOf(int level) {
      return isLevel(level) ? order[level] : 0;
    }

    int levelOf(int variable) {
      for (int level = 0; level < VARIABLES; level++) {
        if (order[level] == variable) {
          return level;
        }
      }
      return 0;
    }

    // ---- making and letting go

    private static boolean isNode(int node) {
      return node >= FIRST && node < CAPACITY;
    }

    private static boolean isLevel(int level) {
      return level >= 0 && level < VARIABLES;
    }

    // What tells 0 or 1 always stands below all levels, and stays itself whatever is put.
    private int levelAt(int node) {
      return isNode(node) ? levels[node] : VARIABLES;
    }

    private int lowOf(int node) {
      return isNode(node) ? lows[node] : node;
    }

    private int highOf(int node) {
      return isNode(node) ? highs[node] : node;
    }

    private static int bucketOf(int level, int low, int high) {
      int mixed = low * 0x9E3779B1 + high * 0x85EBCA6B;
      return level * BUCKETS + ((mixed >>> 20) & (BUCKETS - 1));
    }

    private void link(int node) {
      if (!isNode(node) || !isLevel(levels[node])) {
        return;
      }
      int bucket = bucketOf(levels[node], lows[node], highs[node]);
      nexts[node] = buckets[bucket];
      buckets[bucket] = node;
      counts[levels[node]]++;
      nodes++;
    }

    private void unlink(int node) {
      if (!isNode(node) || !isLevel(levels[node])) {
        return;
      }
      int bucket = bucketOf(levels[node], lows[node], highs[node]);
      int at = buckets[bucket];
      if (at == node) {
        buckets[bucket] = nexts[node];
      }
      for (int step = 0; step < CAPACITY && isNode(at) && at != node; step++) {
        int next = nexts[at];
        if (next == node) {
          nexts[at] = nexts[node];
        }
        at = next;
      }
      counts[levels[node]]--;
      nodes--;
    }

    /** The node with these two functions below it, the function itself if they are the same. */
    private int make(int level, int low, int high) {
      if (low == high || !isLevel(level)) {
        return low;
      }
      int node = buckets[bucketOf(level, low, high)];
      for (int step = 0; step < CAPACITY && isNode(node); step++) {
        if (lows[node] == low && highs[node] == high) {
          return node;
        }
        node = nexts[node];
      }
      if (!isNode(free)) {
        return 0;
      }
      node = free;
      free = nexts[node];
      levels[node] = level;
      lows[node] = low;
      highs[node] = high;
      pointers[node] = 0;
      link(node);
      point(low);
      point(high);
      return node;
    }

    private void point(int node) {
      if (isNode(node)) {
        pointers[node]++;
      }
    }

    private static void drop(Diagram d, int node, int depth) {
      if (!isNode(node) || depth > VARIABLES) {
        return;
      }
      d.pointers[node]--;
      if (d.pointers[node] > 0) {
        return;
      }
      d.unlink(node);
      d.nexts[node] = d.free;
      d.free = node;
      drop(d, d.lows[node], depth + 1);
      drop(d, d.highs[node], depth + 1);
    }

    /** The node of a function that depends on the variables of the set alone. */
    int build(Table f, int set) {
      if (set < 0 || set >= ASSIGNMENTS) {
        return 0;
      }
      int x = 0;
      for (int i = 0; i < 1 << Integer.bitCount(set); i++) {
        rows[x] = f.tells(x) ? 1 : 0;
        x = (x - set) & set;
      }
      int rest = set;
      for (int level = VARIABLES - 1; level >= 0; level--) {
        int bit = 1 << order[level];
        if ((rest & bit) != 0) {
          rest &= ~bit;
          join(level, bit, rest);
        }
      }
      return rows[0];
    }

    private void join(int level, int bit, int rest) {
      int x = 0;
      for (int i = 0; i < 1 << Integer.bitCount(rest); i++) {
        rows[x] = make(level, rows[x], rows[x | bit]);
        x = (x - rest) & rest;
      }
    }

    void setRoot(int slot, int root) {
      point(root);
      int before = roots[slot];
      roots[slot] = root;
      drop(this, before, 0);
    }

    // ---- asking

    /** Lists the nodes below, each once, and the ones that a node points to ahead of it. */
    private static void collect(Diagram d, int node, int depth) {
      if (!isNode(node) || depth > VARIABLES || d.stamps[node] == d.stamp) {
        return;
      }
      d.stamps[node] = d.stamp;
      collect(d, d.lows[node], depth + 1);
      collect(d, d.highs[node], depth + 1);
      if (d.listed < CAPACITY) {
        d.list[d.listed] = node;
        d.listed++;
      }
    }

    /** How many nodes one of two slots has. */
    int countFrom(int a, int b) {
      stamp++;
      listed = 0;
      collect(this, roots[a], 0);
      collect(this, roots[b], 0);
      return listed;
    }

    int pathsToOne(int slot) {
      int many = countFrom(slot, slot);
      values[0] = 0;
      values[1] = 1;
      for (int i = 0; i < many; i++) {
        int node = list[i];
        setValue(node, valueOf(lowOf(node)) + valueOf(highOf(node)));
      }
      return valueOf(roots[slot]);
    }

    int longestPath(int slot) {
      int many = countFrom(slot, slot);
      values[0] = 0;
      values[1] = 0;
      for (int i = 0; i < many; i++) {
        int node = list[i];
        setValue(node, 1 + Math.max(valueOf(lowOf(node)), valueOf(highOf(node))));
      }
      return valueOf(roots[slot]);
    }

    private int valueOf(int node) {
      return node >= 0 && node < CAPACITY ? values[node] : 0;
    }

    private void setValue(int node, int value) {
      if (isNode(node)) {
        values[node] = value;
      }
    }

    // ---- ordering

    /** Exchanges the variables at a level and the next one; each node stays the same function. */
    void exchangeAt(int upper) {
      int lower = upper + 1;
      if (upper < 0 || lower >= VARIABLES) {
        return;
      }
      int ups = takeAll(upper, 0);
      int all = takeAll(lower, ups);
      for (int i = ups; i < all; i++) {
        raise(list[i], upper);
      }
      for (int i = 0; i < ups; i++) {
        sinkIfFree(list[i], upper);
      }
      for (int i = 0; i < ups; i++) {
        if (levelAt(list[i]) == upper) {
          turn(list[i], upper);
        }
      }
      for (int i = ups; i < all; i++) {
        drop(this, list[i], 0);
      }
      int variable = order[upper];
      order[upper] = order[lower];
      order[lower] = variable;
    }

    /** Takes all nodes of a level out of its buckets and lists them behind the first ones. */
    private int takeAll(int level, int first) {
      int many = first;
      for (int b = level * BUCKETS; b < (level + 1) * BUCKETS; b++) {
        int node = buckets[b];
        buckets[b] = 0;
        for (int step = 0; step < CAPACITY && isNode(node) && many < CAPACITY; step++) {
          list[many] = node;
          many++;
          node = nexts[node];
        }
      }
      nodes -= counts[level];
      counts[level] = 0;
      return many;
    }

    /** A node of the lower level goes up with its variable; it is held until all are turned. */
    private void raise(int node, int upper) {
      if (!isNode(node)) {
        return;
      }
      levels[node] = upper;
      pointers[node]++;
      link(node);
    }

    /** A node of the upper level goes down with its variable, if it has nothing of the lower. */
    private void sinkIfFree(int node, int upper) {
      if (isNode(node) && levelAt(lowOf(node)) != upper && levelAt(highOf(node)) != upper) {
        levels[node] = upper + 1;
        link(node);
      }
    }

    /** A node that depends on both variables asks the other one first. */
    private void turn(int node, int upper) {
      if (!isNode(node)) {
        return;
      }
      int low = lowOf(node);
      int high = highOf(node);
      int newLow = make(upper + 1, half(low, upper, false), half(high, upper, false));
      int newHigh = make(upper + 1, half(low, upper, true), half(high, upper, true));
      point(newLow);
      point(newHigh);
      lows[node] = newLow;
      highs[node] = newHigh;
      link(node);
      drop(this, low, 0);
      drop(this, high, 0);
    }

    private int half(int node, int level, boolean isOne) {
      if (levelAt(node) != level) {
        return node;
      }
      return isOne ? highOf(node) : lowOf(node);
    }

    /** Brings the variable up to a level that is not below its own. */
    void lift(int variable, int target) {
      for (int level = levelOf(variable); level > target && level > 0; level--) {
        exchangeAt(level - 1);
      }
    }

    /** Walks what is at the level 0 through all levels to the last; tells the best one for it. */
    int walk() {
      int best = 0;
      int least = LIMIT + 1;
      for (int level = 0; level < VARIABLES; level++) {
        if (nodes < least) {
          least = nodes;
          best = level;
        }
        exchangeAt(level);
      }
      return best;
    }
  }

  /** The least number of nodes that a function of few variables has in any ORDER of these. */
  private static final class Orders {
    private static final int SETS = 1 << FEW;
    private static final int UNKNOWN = 1000;

    private final int[] least = new int[SETS];
    private final long[] parts = new long[SETS];
    private final long[] fresh = new long[SETS];

    Orders() {
    }

    /**
     * The nodes at a level depend on the set of variables above it alone, not on their order: so
     * the least number for each set above comes of that for a set with one variable less.
     */
    int leastNodes(long function, int many) {
      int sets = 1 << Math.min(many, FEW);
      for (int set = 1; set < sets; set++) {
        least[set] = UNKNOWN;
      }
      least[0] = 0;
      for (int set = 0; set < sets; set++) {
        int count = partsOf(function, set);
        for (int v = 0; v < FEW && 1 << v < sets; v++) {
          int with = set | 1 << v;
          if (with != set) {
            least[with] = Math.min(least[with], least[set] + dependent(count, v));
          }
        }
      }
      return least[sets - 1];
    }

    private int partsOf(long function, int set) {
      parts[0] = function;
      int count = 1;
      for (int v = 0; v < FEW; v++) {
        if (((set >> v) & 1) == 1) {
          count = splitAll(count, v);
        }
      }
      return count;
    }

    /** Puts the variable to 0 and to 1 in each part; what comes twice is kept once. */
    private int splitAll(int count, int v) {
      int made = 0;
      for (int i = 0; i < count; i++) {
        made = keep(made, putTo(parts[i], v, false));
        made = keep(made, putTo(parts[i], v, true));
      }
      System.arraycopy(fresh, 0, parts, 0, made);
      return made;
    }

    private int keep(int made, long part) {
      for (int i = 0; i < made; i++) {
        if (fresh[i] == part) {
          return made;
        }
      }
      if (made >= SETS) {
        return made;
      }
      fresh[made] = part;
      return made + 1;
    }

    private int dependent(int count, int v) {
      int sum = 0;
      for (int i = 0; i < count; i++) {
        if (putTo(parts[i], v, false) != putTo(parts[i], v, true)) {
          sum++;
        }
      }
      return sum;
    }

    private static long putTo(long part, int v, boolean isOne) {
      int far = 1 << v;
      long ones = Table.wordOfVariable(v, 0);
      if (isOne) {
        long half = part & ones;
        return half | (half >>> far);
      }
      long half = part & ~ones;
      return half | (half << far);
    }
  }
}
