import java.util.ArrayList;
import java.util.List;

/** What the tests of sentences share: walls to try calls on, and whether a call left all as it was. */
final class Bounds {
  static final int MIN = Integer.MIN_VALUE, MAX = Integer.MAX_VALUE;
  static final int NONE = -1, BAD = -2, NO = -3, FULL = -4;
  static final int AS_BAD = 0, AS_NO = 1, AS_FULL = 2, NOT_REFUSED = -1;

  /** Three DRAWERS each: one with nothing told, one with some of all, one with no room left. */
  static final Setup BARE = x -> x.wall(3);
  static final Setup BUSY = Bounds::makeBusy;
  static final Setup FILLED = Bounds::makeFilled;
  private static final Setup[] SETUPS = {BARE, BUSY, FILLED};

  static int checks = 0;
  static int wrong = 0;

  interface Call {
    long on(DrawerWall x);
  }

  interface Setup {
    void on(DrawerWall x);
  }

  private Bounds() {
  }

  static void due(String call, long got, long want) {
    checks++;
    if (got == want) return;
    wrong++;
    System.out.println("  " + call + " answered " + got + ", due is " + want);
  }

  static DrawerWall madeBy(Setup at) {
    DrawerWall x = new DrawerWall();
    at.on(x);
    return x;
  }

  static DrawerWall wallOf(int n) {
    DrawerWall x = new DrawerWall();
    x.wall(n);
    return x;
  }

  /** Puts a text in the place of THE TEXT. */
  static void typed(DrawerWall x, String t) {
    x.clear();
    for (int at = 0; at < t.length(); at += 8) {
      int n = Math.min(8, t.length() - at);
      long v = 0;
      for (int k = 0; k < n; k++) v = v << 8 | t.charAt(at + k);
      x.type(v, n);
    }
  }

  static int readOf(DrawerWall x, String t) {
    typed(x, t);
    return x.read();
  }

  static String padded(String t, int length) {
    return t + " ".repeat(length - t.length());
  }

  static long hash(long... values) {
    long h = 761;
    for (long v : values) h = 31 * h + v;
    return h;
  }

  /** The digest of a wall with so many drawers and bytes of THE TEXT, and nothing told. */
  static long hashOfBare(int n, int bytes) {
    long h = hash(n, 0, 0, 0, bytes, 0, 0);
    for (int d = 0; d < n; d++) h = (31 * h + 0) * 31 + d;
    return h * 31 * 31;
  }

  static void status(String of, DrawerWall x, int bad, int no, int full) {
    due(of + ": status(0)", x.status(0), bad);
    due(of + ": status(1)", x.status(1), no);
    due(of + ": status(2)", x.status(2), full);
  }

  /** A call that is BAD wherever it is called; all but STATUS is left as it was. */
  static void bad(String call, Call c) {
    for (Setup at : SETUPS) leaves(at, call, c, BAD, AS_BAD);
  }

  /** As bad, with another answer than -2. */
  static void badBy(int answer, String call, Call c) {
    for (Setup at : SETUPS) leaves(at, call, c, answer, AS_BAD);
  }

  static void no(Setup at, String call, Call c) {
    leaves(at, call, c, NO, AS_NO);
  }

  static void full(Setup at, String call, Call c) {
    leaves(at, call, c, FULL, AS_FULL);
  }

  /** A call that is answered, not refused, and leaves all as it was, STATUS too. */
  static void asked(Setup at, String call, Call c, long answer) {
    leaves(at, call, c, answer, NOT_REFUSED);
  }

  /** As asked, on each of the three walls, whatever the answer is. */
  static void onlyAsks(String call, Call c) {
    for (Setup at : SETUPS) leaves(at, call, c, c.on(madeBy(at)), NOT_REFUSED);
  }

  /** Whether a call answers so, is counted so, and leaves a wall as its twin without the call. */
  private static void leaves(Setup at, String call, Call c, long answer, int reason) {
    DrawerWall x = madeBy(at);
    DrawerWall twin = madeBy(at);
    due(call, c.on(x), answer);
    for (int what = 0; what < 3; what++) {
      int more = x.status(what) - twin.status(what);
      due(call + ": more in status(" + what + ")", more, what == reason ? 1 : 0);
    }
    List<String> after = seen(x);
    List<String> due = seen(twin);
    due(call + ": how much is seen then", after.size(), due.size());
    for (int i = 0; i < Math.min(after.size(), due.size()); i++) {
      checks++;
      if (after.get(i).equals(due.get(i))) continue;
      wrong++;
      System.out.println("  " + call + ": then " + after.get(i) + ", due is " + due.get(i));
    }
  }

  /** All that can be seen of a wall, with what its undoing, THE TEXT and the images give. */
  private static List<String> seen(DrawerWall x) {
    List<String> all = new ArrayList<>();
    int n = x.count(0);
    for (int what = 0; what < 7; what++) all.add("count(" + what + ") " + x.count(what));
    all.add("digest() " + x.digest());
    for (int d = 0; d < n; d++) all.add("out(" + d + ") " + x.out(d));
    for (int what = 0; what < 3; what++) all.add("reach(" + what + ") " + x.reach(what));
    all.add("kept() " + x.kept());
    all.add("cut() " + x.cut());
    all.add("tie() " + x.tie());
    for (int what = 0; what < 2; what++) all.add("day(" + what + ") " + x.day(what));
    all.add("laid() " + x.laid());
    all.add("fits(0) " + x.fits(0));
    seeStates(x, n, all);
    seeRows(x, n, all);
    seeUndone(x, all);
    all.add("read() " + x.read());
    all.add("digest() of what was read " + x.digest());
    for (int i = 0; i < 2; i++) {
      all.add("from(" + i + ") " + x.from(i));
      all.add("digest() of the image " + x.digest());
      seeUndone(x, all);
    }
    return all;
  }

  private static void seeStates(DrawerWall x, int n, List<String> all) {
    int states = power(n);
    for (int s = 0; s < states; s += Math.max(1, states / 13)) {
      all.add("danger(" + s + ") " + x.danger(s));
      for (int d = 0; d < n; d++) all.add("behind(" + s + ", " + d + ") " + x.behind(s, d));
    }
  }

  private static void seeRows(DrawerWall x, int n, List<String> all) {
    for (int d = 0; d < n; d++) {
      all.add("pulls(1 << " + d + ", 0, -1) " + x.pulls(1 << d, 0, -1));
      all.add("pulls(1 << " + d + ", 0, 0) " + x.pulls(1 << d, 0, 0));
      all.add("safe(1 << " + d + ", 0, -1) " + x.safe(1 << d, 0, -1));
    }
    all.add("pulls(0, all, -1) " + x.pulls(0, (1 << n) - 1, -1));
    all.add("safe(0, all, -1) " + x.safe(0, (1 << n) - 1, -1));
  }

  private static void seeUndone(DrawerWall x, List<String> all) {
    int state = 0;
    for (int i = 0; i <= 21 && state >= 0; i++) {
      state = x.undo();
      all.add("undo() " + state);
    }
  }

  static int power(int drawer) {
    int p = 1;
    for (int d = 0; d < drawer; d++) p *= 3;
    return p;
  }

  private static void makeBusy(DrawerWall x) {
    x.wall(3);
    x.cord(0, 1, 0, 1);
    x.cord(1, 2, 2, -1);
    x.cord(2, 0, 4, 2);
    x.cord(0, 2, 5, 2);
    x.caught(1, true);
    x.good(0, 4);
    x.good(2, 4);
    x.put(0, 1 << 4);
    x.put(1, 1 << 1);
    x.order(4);
    x.order(1);
    x.sight(0, x.behind(0, 0));
    x.sight(1, x.behind(x.behind(0, 0), 1));
    x.pull(1);
    x.image(0);
    x.pull(2);
    x.pull(0);
    typed(x, "drawers 4;cord 0 1 2 - 1;catch 3;good 2 5;order 1;");
  }

  private static void makeFilled(DrawerWall x) {
    x.wall(3);
    for (int c = 0; c < 10; c++) x.cord(c % 3, (c + 1 + c % 2) % 3, c % 6, c % 4 < 2 ? 1 : -2);
    for (int d = 0; d < 3; d += 2) x.caught(d, true);
    x.good(1, 6);
    x.put(0, 127);
    x.put(1, 96);
    for (int o = 0; o < 6; o++) x.order((7 - o) % 7);
    for (int s = 0; s < 8; s++) x.sight(s % 3, 3 * s);
    for (int i = 0; i < 22; i++) x.pull(i % 3);
    x.image(0);
    x.pull(1);
    x.image(1);
    x.pull(2);
    typed(x, padded("drawers 3;cord 0 1 2 - 1;cord 1 2 3 2;catch 1;good 2 6;order 6;order 2;", 200));
  }
}
