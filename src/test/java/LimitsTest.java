/** Calls with any numbers, in any state, more than an object is used for: each must answer. */
public final class LimitsTest {
  private static final int[] ODD = {
    Integer.MIN_VALUE, Integer.MIN_VALUE + 1, -1001, -10, -5, -4, -3, -2, -1, 0, 1, 2, 3, 4, 5, 6, 7,
    8, 9, 10, 19, 20, 26, 27, 31, 32, 63, 64, 127, 128, 242, 243, 728, 2186, 2187, 2188, 1 << 30,
    Integer.MAX_VALUE - 1, Integer.MAX_VALUE,
  };
  private static long seed = 3;

  private static int odd() {
    seed = seed * 6364136223846793005L + 1442695040888963407L;
    int k = (int) ((seed >>> 33) % (2 * ODD.length));
    return k < ODD.length ? ODD[k] : k % 8;
  }

  private static long call(DrawerWall x, int which) {
    switch (which) {
      case 0: return odd() % 9 == 0 ? x.wall(odd()) : 0;
      case 1: return x.cord(odd(), odd(), odd(), odd());
      case 2: return x.caught(odd(), odd() % 2 == 0);
      case 3: return x.good(odd(), odd());
      case 4: return x.put(odd(), odd());
      case 5: return x.order(odd());
      case 6: return x.type((long) odd() << 32 ^ odd(), odd());
      case 7: return odd() % 5 == 0 ? x.clear() : 0;
      case 8: return x.read();
      case 9: return x.pull(odd());
      case 10: return x.undo();
      case 11: return x.behind(odd(), odd());
      case 12: return x.out(odd());
      case 13: return x.pulls(odd(), odd(), odd());
      case 14: return x.safe(odd(), odd(), odd());
      case 15: return x.reach(odd());
      case 16: return x.kept();
      case 17: return x.cut();
      case 18: return x.tie();
      case 19: return x.day(odd());
      case 20: return x.laid();
      case 21: return x.danger(odd());
      case 22: return x.sight(odd(), odd());
      case 23: return odd() % 5 == 0 ? x.none(odd()) : 0;
      case 24: return x.fits(odd());
      case 25: return x.image(odd());
      case 26: return x.from(odd());
      case 27: return x.status(odd());
      case 28: return x.count(odd());
      default: return x.digest();
    }
  }

  public static void main(String[] args) {
    long sum = 0;
    for (int r = 0; r < 20; r++) {
      DrawerWall x = new DrawerWall();
      for (int i = 0; i < 2000; i++) {
        int which = Math.floorMod(odd() * 31 + odd() + i, 30);
        sum = sum * 31 + call(x, which);
      }
    }
    System.out.println("LimitsTest: all calls answered, sum " + sum);
  }
}
