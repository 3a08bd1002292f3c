/** leastSize() of many mixed functions of up to six variables, against all orders one by one. */
public final class LeastSizeTest {
  private static int wrong = 0;
  private static long seed = 5;

  private static int pick(int bound) {
    seed = seed * 6364136223846793005L + 1442695040888963407L;
    return (int) ((seed >>> 33) % bound);
  }

  /** Some variables, no others: they are numbered from 0 or from 9 down, or every other one. */
  private static int variable(int number, int way) {
    return way == 0 ? number : way == 1 ? 9 - number : (3 * number + 1) % 10;
  }

  /** Into each of the slots 0 to 5 an odd number of some products of variables. */
  private static void mix(Trellis t, SlowTrellis s, int many, int way) {
    for (int slot = 0; slot < 6; slot++) {
      for (int product = 0; product < 2 + many; product++) {
        t.constant(11, true);
        s.constant(11, true);
        for (int k = 0; k < many; k++) {
          if (pick(2) == 0) {
            t.variable(10, variable(k, way));
            s.variable(10, variable(k, way));
            t.apply(11, 11, 10, 8);
            s.apply(11, 11, 10, 8);
          }
        }
        t.apply(slot, slot, 11, 6);
        s.apply(slot, slot, 11, 6);
      }
    }
  }

  public static void main(String[] args) {
    int[] seen = new int[40];
    for (int round = 0; round < 24; round++) {
      Trellis t = new Trellis();
      SlowTrellis s = new SlowTrellis();
      mix(t, s, 3 + round % 4, round % 3);
      for (int k = 0; k < 6; k++) {
        long due = s.leastSize(k);
        seen[(int) due]++;
        if (t.leastSize(k) != due) {
          wrong++;
          System.out.println("round " + round + ", slot " + k + ": leastSize answered "
              + t.leastSize(k) + ", due is " + due);
        }
      }
    }
    StringBuilder b = new StringBuilder("least sizes seen:");
    for (int n = 0; n < seen.length; n++) {
      if (seen[n] > 0) {
        b.append(' ').append(n).append('x').append(seen[n]);
      }
    }
    System.out.println(b);
    System.out.println(wrong == 0 ? "all least sizes are as due" : wrong + " are not as due");
    if (wrong != 0) {
      System.exit(1);
    }
  }
}
