import java.util.ArrayList;
import java.util.Arrays;
import java.util.HashMap;
import java.util.HashSet;
import java.util.IdentityHashMap;
import java.util.List;
import java.util.Map;
import java.util.Set;

/**
 * The document, word by word and slowly: functions as texts of 1024 signs, NODES as sets of texts.
 * The tests compare Trellis with it. Every answer is a long (a boolean counts 1 or 0).
 */
final class SlowTrellis {
  static final int SLOTS = 12;
  static final int VARS = 10;
  static final int ALL = 1024;

  boolean[][] f = new boolean[SLOTS][ALL];
  int[] order = new int[VARS];
  int[] cost = new int[VARS];
  /** What TOTAL would have been by the last put or swap, whether it was made or refused. */
  int lastTotal;

  SlowTrellis() {
    for (int k = 0; k < VARS; k++) {
      order[k] = k;
    }
  }

  /** Another store with the same functions, order and costs. */
  SlowTrellis copy() {
    SlowTrellis other = new SlowTrellis();
    other.f = f.clone();
    other.order = order.clone();
    other.cost = cost.clone();
    return other;
  }

  /** The same text as Checks.stateOf() makes of a Trellis. */
  String state() {
    StringBuilder b = new StringBuilder();
    b.append(total()).append(' ').append(meanSize());
    for (int k = 0; k < VARS; k++) {
      b.append(' ').append(order[k]).append(' ').append(nodesAt(k)).append(' ').append(cost[k]);
    }
    for (int s = 0; s < SLOTS; s++) {
      b.append(' ').append(size(s)).append(' ').append(support(s)).append(' ');
      for (int x = 0; x < ALL; x++) {
        b.append(f[s][x] ? '1' : '0');
      }
    }
    return b.append(' ').append(digest()).toString();
  }

  interface Rule {
    boolean tells(int x);
  }

  private static void slot(int... slots) {
    for (int s : slots) {
      if (s < 0 || s > 11) {
        throw new IndexOutOfBoundsException();
      }
    }
  }

  private static void var(int... vars) {
    for (int v : vars) {
      if (v < 0 || v > 9) {
        throw new IndexOutOfBoundsException();
      }
    }
  }

  private static void need(boolean so) {
    if (!so) {
      throw new IllegalArgumentException();
    }
  }

  static int bit(int x, int v) {
    return (x >> v) & 1;
  }

  static int with(int x, int v, int value) {
    return value == 1 ? x | (1 << v) : x & ~(1 << v);
  }

  static int crossed(int x, int v, int w) {
    return with(with(x, v, bit(x, w)), w, bit(x, v));
  }

  // ---- diagrams, as section 2 tells them

  private static int[] textOrder = {};
  private static int[] textPlaces = {};

  /** The assignment for each place of a text in this order: level 0 halves it, and so on. */
  private static int[] places(int[] order) {
    if (!Arrays.equals(order, textOrder)) {
      int[] places = new int[1 << order.length];
      for (int i = 0; i < places.length; i++) {
        for (int level = 0; level < order.length; level++) {
          places[i] |= ((i >> (order.length - 1 - level)) & 1) << order[level];
        }
      }
      textOrder = order.clone();
      textPlaces = places;
    }
    return textPlaces;
  }

  /** The function as a text in the order of the levels. */
  private static String text(boolean[] f, int[] order) {
    StringBuilder s = new StringBuilder();
    for (int x : places(order)) {
      s.append(f[x] ? '1' : '0');
    }
    return s.toString();
  }

  private static Set<String> nodes(boolean[] f, int[] order) {
    Set<String> all = new HashSet<>();
    String s = text(f, order);
    for (int level = 0; level < order.length; level++) {
      int half = s.length() >> level + 1;
      for (int low = 0; low < s.length(); low += 2 * half) {
        if (!s.regionMatches(low, s, low + half, half)) {
          all.add(level + ":" + s.substring(low, low + 2 * half));
        }
      }
    }
    return all;
  }

  private Set<String> allNodes(int[] order) {
    Set<String> all = new HashSet<>();
    for (int s = 0; s < SLOTS; s++) {
      all.addAll(nodes(f[s], order));
    }
    return all;
  }

  // What was found in the present order; the tables are never written once they are in a slot.
  private final Map<boolean[], Set<String>> found = new IdentityHashMap<>();
  private int[] foundOrder;

  private Set<String> nodesNow(int slot) {
    if (foundOrder != order) {
      found.clear();
      foundOrder = order;
    }
    return found.computeIfAbsent(f[slot], g -> nodes(g, order));
  }

  private Set<String> together;
  private boolean[][] togetherOf;

  private Set<String> allNodesNow() {
    if (together == null || foundOrder != order || !Arrays.equals(togetherOf, f)) {
      together = new HashSet<>();
      for (int s = 0; s < SLOTS; s++) {
        together.addAll(nodesNow(s));
      }
      togetherOf = f.clone();
    }
    return together;
  }

  long size(int a) {
    slot(a);
    return nodesNow(a).size();
  }

  long total() {
    return allNodesNow().size();
  }

  long nodesAt(int level) {
    var(level);
    int n = 0;
    for (String s : allNodesNow()) {
      if (s.startsWith(level + ":")) {
        n++;
      }
    }
    return n;
  }

  long shared(int a, int b) {
    slot(a, b);
    Set<String> both = new HashSet<>(nodesNow(a));
    both.retainAll(nodesNow(b));
    return both.size();
  }

  /** What TOTAL would be, if one more slot had this function. */
  int totalWith(boolean[] g) {
    Set<String> all = allNodes(order);
    all.addAll(nodes(g, order));
    return all.size();
  }

  /** What TOTAL would be with the variable at each level, the others in their order. */
  int[] totalsOf(int v) {
    int[] totals = new int[VARS];
    for (int level = 0; level < VARS; level++) {
      totals[level] = allNodes(moved(v, level)).size();
    }
    return totals;
  }

  private static int walk(String s, boolean longest) {
    if (s.indexOf('0') < 0) {
      return longest ? 0 : 1;
    }
    if (s.indexOf('1') < 0) {
      return 0;
    }
    String low = s.substring(0, s.length() / 2);
    String high = s.substring(s.length() / 2);
    if (low.equals(high)) {
      return walk(low, longest);
    }
    int x = walk(low, longest);
    int y = walk(high, longest);
    return longest ? 1 + Math.max(x, y) : x + y;
  }

  long ways(int a) {
    slot(a);
    return walk(text(f[a], order), false);
  }

  long depth(int a) {
    slot(a);
    return walk(text(f[a], order), true);
  }

  private final Map<String, Integer> leastKnown = new HashMap<>();

  long leastSize(int a) {
    slot(a);
    int set = (int) support(a);
    int n = Integer.bitCount(set);
    if (n > 6) {
      return -1;
    }
    int[] vars = new int[n];
    int k = 0;
    for (int v = 0; v < VARS; v++) {
      if (bit(set, v) == 1) {
        vars[k++] = v;
      }
    }
    boolean[] small = new boolean[1 << n];
    for (int i = 0; i < small.length; i++) {
      int x = 0;
      for (int j = 0; j < n; j++) {
        x |= bit(i, j) << vars[j];
      }
      small[i] = f[a][x];
    }
    String key = text(small, identity(n));
    Integer known = leastKnown.get(key);
    if (known == null) {
      known = leastOver(small, new int[n], 0, 0);
      leastKnown.put(key, known);
    }
    return known;
  }

  private static int[] identity(int n) {
    int[] o = new int[n];
    for (int i = 0; i < n; i++) {
      o[i] = i;
    }
    return o;
  }

  private static int leastOver(boolean[] small, int[] order, int at, int used) {
    if (at == order.length) {
      return nodes(small, order).size();
    }
    int best = Integer.MAX_VALUE;
    for (int v = 0; v < order.length; v++) {
      if (bit(used, v) == 0) {
        order[at] = v;
        best = Math.min(best, leastOver(small, order, at + 1, used | 1 << v));
      }
    }
    return best;
  }

  // ---- making functions

  private long place(int slot, Rule rule) {
    boolean[] made = new boolean[ALL];
    for (int x = 0; x < ALL; x++) {
      made[x] = rule.tells(x);
    }
    boolean[] before = f[slot];
    f[slot] = made;
    lastTotal = (int) total();
    if (lastTotal > 400) {
      f[slot] = before;
      return -1;
    }
    return size(slot);
  }

  long constant(int s, boolean one) {
    slot(s);
    return place(s, x -> one);
  }

  long variable(int s, int v) {
    slot(s);
    var(v);
    return place(s, x -> bit(x, v) == 1);
  }

  long apply(int s, int a, int b, int table) {
    slot(s, a, b);
    need(table >= 0 && table <= 15);
    return place(s, x -> bit(table, 2 * (f[a][x] ? 1 : 0) + (f[b][x] ? 1 : 0)) == 1);
  }

  long choose(int s, int a, int b, int c) {
    slot(s, a, b, c);
    return place(s, x -> f[a][x] ? f[b][x] : f[c][x]);
  }

  long put(int s, int a, int v, boolean one) {
    slot(s, a);
    var(v);
    return place(s, x -> f[a][with(x, v, one ? 1 : 0)]);
  }

  long compose(int s, int a, int v, int b) {
    slot(s, a, b);
    var(v);
    return place(s, x -> f[a][with(x, v, f[b][x] ? 1 : 0)]);
  }

  long quantify(int s, int a, int set, int way) {
    slot(s, a);
    need(set >= 0 && set < ALL);
    need(way >= 0 && way <= 2);
    return place(s, x -> {
      int ones = 0;
      int all = 0;
      for (int y = 0; y < ALL; y++) {
        if ((y & ~set) == 0) {
          all++;
          ones += f[a][(x & ~set) | y] ? 1 : 0;
        }
      }
      return way == 0 ? ones > 0 : way == 1 ? ones == all : ones % 2 == 1;
    });
  }

  long meet(int s, int a, int b, int set) {
    slot(s, a, b);
    need(set >= 0 && set < ALL);
    return place(s, x -> {
      for (int y = 0; y < ALL; y++) {
        int z = (x & ~set) | y;
        if ((y & ~set) == 0 && f[a][z] && f[b][z]) {
          return true;
        }
      }
      return false;
    });
  }

  long exchange(int s, int a, int v, int w) {
    slot(s, a);
    var(v, w);
    return place(s, x -> f[a][crossed(x, v, w)]);
  }

  long press(int s, int a, int b) {
    slot(s, a, b);
    if (models(b) == 0) {
      throw new IllegalStateException();
    }
    int[] byLevel = new int[ALL];
    for (int x = 0; x < ALL; x++) {
      for (int level = 0; level < VARS; level++) {
        byLevel[x] = 2 * byLevel[x] + bit(x, order[level]);
      }
    }
    return place(s, x -> {
      int best = -1;
      for (int y = 0; y < ALL; y++) {
        if (f[b][y] && (best < 0 || (byLevel[x] ^ byLevel[y]) < (byLevel[x] ^ byLevel[best]))) {
          best = y;
        }
      }
      return f[a][best];
    });
  }

  long atLeast(int s, int set, int least) {
    slot(s);
    need(set >= 0 && set < ALL);
    need(least >= 0 && least <= 11);
    return place(s, x -> {
      int n = 0;
      for (int v = 0; v < VARS; v++) {
        n += bit(set, v) * bit(x, v);
      }
      return n >= least;
    });
  }

  long below(int s, int first, int bits, int than) {
    slot(s);
    var(first);
    need(bits >= 1 && bits <= 10 - first);
    need(than >= 0 && than <= 1024);
    return place(s, x -> {
      int n = 0;
      for (int k = 0; k < bits; k++) {
        n += bit(x, first + k) << k;
      }
      return n < than;
    });
  }

  // ---- asking functions

  long holds(int a, int x) {
    slot(a);
    need(x >= 0 && x < ALL);
    return f[a][x] ? 1 : 0;
  }

  private List<Integer> listModels(int a) {
    List<Integer> all = new ArrayList<>();
    for (int x = 0; x < ALL; x++) {
      if (f[a][x]) {
        all.add(x);
      }
    }
    return all;
  }

  long models(int a) {
    slot(a);
    return listModels(a).size();
  }

  long model(int a, int number) {
    slot(a);
    need(number >= 0);
    List<Integer> all = listModels(a);
    return number < all.size() ? all.get(number) : -1;
  }

  long support(int a) {
    slot(a);
    long set = 0;
    for (int v = 0; v < VARS; v++) {
      if (influence(a, v) > 0) {
        set += 1L << v;
      }
    }
    return set;
  }

  long compare(int a, int b) {
    slot(a, b);
    Set<Integer> x = new HashSet<>(listModels(a));
    Set<Integer> y = new HashSet<>(listModels(b));
    if (x.equals(y)) {
      return 0;
    }
    if (y.containsAll(x)) {
      return 1;
    }
    if (x.containsAll(y)) {
      return 2;
    }
    x.retainAll(y);
    return x.isEmpty() ? 3 : 4;
  }

  long trend(int a, int v) {
    slot(a);
    var(v);
    boolean falls = false;
    boolean rises = false;
    for (int x = 0; x < ALL; x++) {
      boolean low = f[a][with(x, v, 0)];
      boolean high = f[a][with(x, v, 1)];
      falls |= low && !high;
      rises |= high && !low;
    }
    return !falls && !rises ? 0 : !falls ? 1 : !rises ? 2 : 3;
  }

  long isSymmetric(int a, int v, int w) {
    slot(a);
    var(v, w);
    for (int x = 0; x < ALL; x++) {
      if (f[a][x] != f[a][crossed(x, v, w)]) {
        return 0;
      }
    }
    return 1;
  }

  long influence(int a, int v) {
    slot(a);
    var(v);
    int n = 0;
    for (int x = 0; x < ALL; x++) {
      n += f[a][x] != f[a][x ^ (1 << v)] ? 1 : 0;
    }
    return n;
  }

  long setCost(int v, int c) {
    var(v);
    need(c >= 0 && c <= 99);
    int before = cost[v];
    cost[v] = c;
    return before;
  }

  long cheapest(int a) {
    slot(a);
    int best = -1;
    int least = 0;
    for (int x : listModels(a)) {
      int sum = 0;
      for (int v = 0; v < VARS; v++) {
        sum += bit(x, v) * cost[v];
      }
      if (best < 0 || sum < least) {
        best = x;
        least = sum;
      }
    }
    return best;
  }

  // ---- ordering

  long variableAt(int level) {
    var(level);
    return order[level];
  }

  private static int[] swapped(int[] order, int level) {
    int[] o = order.clone();
    o[level] = order[level + 1];
    o[level + 1] = order[level];
    return o;
  }

  long wouldSwap(int level) {
    if (level < 0 || level > 8) {
      throw new IndexOutOfBoundsException();
    }
    lastTotal = allNodes(swapped(order, level)).size();
    return lastTotal > 400 ? -1 : lastTotal;
  }

  long swap(int level) {
    long then = wouldSwap(level);
    if (then >= 0) {
      order = swapped(order, level);
    }
    return then;
  }

  private int[] moved(int v, int to) {
    int[] o = new int[VARS];
    int from = 0;
    for (int level = 0; level < VARS; level++) {
      if (level == to) {
        o[level] = v;
        continue;
      }
      if (order[from] == v) {
        from++;
      }
      o[level] = order[from++];
    }
    return o;
  }

  int siftsThatRefused;

  long wouldSift(int v) {
    var(v);
    int best = -1;
    int least = 0;
    boolean refused = false;
    for (int level = 0; level < VARS; level++) {
      int t = allNodes(moved(v, level)).size();
      refused |= t > 400;
      if (t <= 400 && (best < 0 || t < least)) {
        best = level;
        least = t;
      }
    }
    siftsThatRefused += refused ? 1 : 0;
    return best;
  }

  long sift(int v) {
    int to = (int) wouldSift(v);
    order = moved(v, to);
    return to;
  }

  long settle() {
    long before = total();
    List<Integer> vars = new ArrayList<>();
    int[] weight = new int[VARS];
    for (int level = 0; level < VARS; level++) {
      weight[order[level]] = (int) nodesAt(level);
    }
    for (int v = 0; v < VARS; v++) {
      vars.add(v);
    }
    vars.sort((p, q) -> weight[p] != weight[q] ? weight[q] - weight[p] : p - q);
    for (int v : vars) {
      sift(v);
    }
    return before - total();
  }

  double meanSize() {
    long sum = 0;
    for (int s = 0; s < SLOTS; s++) {
      sum += size(s);
    }
    return sum / 12.0;
  }

  long digest() {
    List<Long> xs = new ArrayList<>();
    xs.add(total());
    for (int level = 0; level < VARS; level++) {
      xs.add(variableAt(level));
      xs.add(nodesAt(level));
    }
    for (int s = 0; s < SLOTS; s++) {
      xs.add(models(s));
      xs.add(support(s));
      xs.add(size(s));
      xs.add(ways(s));
      xs.add(depth(s));
      xs.add(cheapest(s));
      xs.add(model(s, 0));
      xs.add(model(s, 7));
      xs.add(model(s, 100));
    }
    for (int s = 0; s < SLOTS - 1; s++) {
      xs.add(compare(s, s + 1));
      xs.add(shared(s, s + 1));
    }
    for (int s = 0; s < SLOTS; s++) {
      for (int v = 0; v < VARS; v++) {
        xs.add(trend(s, v));
        xs.add(influence(s, v));
      }
    }
    long d = 58029;
    for (long x : xs) {
      d = d * 31 + x;
    }
    return d;
  }
}
