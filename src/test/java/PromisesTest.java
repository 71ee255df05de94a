/** Each promise of the document: ordinary calls, the edges that it names, and wrong ones. */
public final class PromisesTest {
  private static final int MIN = Integer.MIN_VALUE, MAX = Integer.MAX_VALUE;
  private static int wrong = 0;

  private static void due(String call, long got, long want) {
    if (got == want) return;
    wrong++;
    System.out.println(call + " answered " + got + ", due is " + want);
  }

  /** Puts a text in the place of THE TEXT. */
  private static void typed(DrawerWall x, String t) {
    x.clear();
    for (int i = 0; i < t.length(); i++) x.type(t.charAt(i), 1);
  }

  private static int readOf(DrawerWall x, String t) {
    typed(x, t);
    return x.read();
  }

  private static DrawerWall wallOf(int n) {
    DrawerWall x = new DrawerWall();
    x.wall(n);
    return x;
  }

  private static long hash(long... values) {
    long h = 761;
    for (long v : values) h = 31 * h + v;
    return h;
  }

  /** Checks that of these calls so many were refused as BAD, NO, FULL. */
  private static void refused(String of, DrawerWall x, int bad, int no, int full) {
    due(of + ": status(0)", x.status(0), bad);
    due(of + ": status(1)", x.status(1), no);
    due(of + ": status(2)", x.status(2), full);
  }

  private static void newObject() {
    DrawerWall x = new DrawerWall();
    due("new: digest", x.digest(),
        hash(5, 0, 0, 0, 0, 0, 0, 0, 0, 0, 1, 0, 2, 0, 3, 0, 4, 0, 0));
    refused("new", x, 0, 0, 0);
    for (int d = 0; d < 5; d++) due("new: out(" + d + ")", x.out(d), 0);
    due("new: undo", x.undo(), -3);
    due("new: from", x.from(0), -3);
  }

  private static void walls() {
    DrawerWall x = new DrawerWall();
    due("wall(2)", x.wall(2), 5);
    due("wall(7)", x.wall(7), 2);
    due("wall(1)", x.wall(1), -2);
    due("wall(8)", x.wall(8), -2);
    due("wall(MIN)", x.wall(MIN), -2);
    due("wall(MAX)", x.wall(MAX), -2);
    due("count(0)", x.count(0), 7);
    x.cord(0, 1, 0, 1);
    x.caught(6, true);
    x.good(3, 0);
    x.put(0, 1);
    x.put(1, 2);
    x.order(4);
    x.sight(0, 1);
    x.pull(5);
    x.type('a', 1);
    x.image(1);
    due("wall(3)", x.wall(3), 7);
    due("nothing else told", x.digest(), hash(3, 0, 0, 0, 1, 0, 0, 0, 0, 0, 1, 0, 2, 0, 0));
    due("wall leaves no undo", x.undo(), -3);
    x.cord(2, 1, 5, -1);
    x.sight(2, 20);
    due("told again", x.digest(),
        hash(3, 1, 0, 1, 1, 0, 0, 0, 0, 0, 1, 0, 2, 2, 1, 5, -1, 0, 0, 2, 20));
    due("an image outlives wall", x.from(1), 1);
    due("with its drawers", x.count(0), 7);
    refused("wall", x, 4, 1, 0);
  }

  private static void cords() {
    DrawerWall x = wallOf(3);
    due("from -1", x.cord(-1, 0, 0, 1), -2);
    due("from 3", x.cord(3, 0, 0, 1), -2);
    due("to -1", x.cord(0, -1, 0, 1), -2);
    due("to 3", x.cord(0, 3, 0, 1), -2);
    due("alike", x.cord(1, 1, 0, 1), -2);
    due("kind -1", x.cord(0, 1, -1, 1), -2);
    due("kind 6", x.cord(0, 1, 6, 1), -2);
    due("v 0", x.cord(0, 1, 0, 0), -2);
    due("v 3", x.cord(0, 1, 0, 3), -2);
    due("v -3", x.cord(0, 1, 0, -3), -2);
    due("v MIN", x.cord(0, 1, 0, MIN), -2);
    for (int c = 0; c < 10; c++) {
      due("cord " + c, x.cord(c % 3, (c + 1) % 3, c % 6, c % 2 == 0 ? 2 : -2), c);
    }
    due("cord 10", x.cord(0, 1, 0, 1), -4);
    due("BAD ahead of FULL", x.cord(0, 0, 0, 1), -2);
    due("count(1)", x.count(1), 10);
    refused("cord", x, 12, 0, 1);
  }

  private static void catches() {
    DrawerWall x = wallOf(3);
    due("caught(3)", x.caught(3, true), -2);
    due("caught(-1)", x.caught(-1, false), -2);
    due("no catch yet", x.caught(1, false), -3);
    due("caught", x.caught(1, true), 1);
    due("caught again", x.caught(1, true), -3);
    due("neighbour half out", x.behind(1, 1), 4);
    due("neighbour below open", x.behind(2, 1), 2);
    due("neighbour above open", x.behind(18, 1), 18);
    due("it can not go in either", x.behind(2 + 6, 1), 8);
    due("the other one can be pulled", x.behind(6, 0), 7);
    x.cord(0, 1, 0, 1);
    due("cords move it all the same", x.behind(1, 0), 5);
    x.caught(0, true);
    due("a stopped pull draws no cord", x.behind(6, 0), 6);
    due("only beside counts", x.behind(18, 0), 18 + 1 + 3);
    due("free again", x.caught(1, false), 1);
    due("and goes", x.behind(2, 1), 5);
    refused("caught", x, 2, 2, 0);
  }

  private static void goods() {
    DrawerWall x = wallOf(3);
    due("its number at first", x.good(2, 6), 2);
    due("then what was told", x.good(2, 6), 6);
    due("two alike", x.good(1, 6), 1);
    due("g 7", x.good(0, 7), -2);
    due("g -1", x.good(0, -1), -2);
    due("drawer 3", x.good(3, 0), -2);
    due("drawer -1", x.good(-1, 0), -2);
    due("none of it told", x.good(0, 0), 0);
    refused("good", x, 4, 0, 0);
  }

  private static void sets() {
    DrawerWall x = wallOf(2);
    due("poison", x.put(0, 127), 0);
    due("food", x.put(1, 64), 0);
    due("poison was", x.put(0, 0), 127);
    due("food was", x.put(1, 1), 64);
    due("bits 128", x.put(0, 128), -2);
    due("bits -1", x.put(1, -1), -2);
    due("what 2", x.put(2, 1), -2);
    due("what -1", x.put(-1, 1), -2);
    due("digest", x.digest(), hash(2, 0, 0, 0, 0, 0, 0, 0, 0, 0, 1, 0, 1));
    refused("put", x, 4, 0, 0);
  }

  private static void orders() {
    DrawerWall x = wallOf(2);
    due("order(-1)", x.order(-1), -2);
    due("order(7)", x.order(7), -2);
    for (int o = 0; o < 6; o++) due("order " + o, x.order(6 - o), o);
    due("a seventh", x.order(0), -4);
    due("BAD ahead of FULL", x.order(7), -2);
    due("count(2)", x.count(2), 6);
    refused("order", x, 3, 0, 1);
  }

  private static void typing() {
    DrawerWall x = new DrawerWall();
    due("n 0", x.type(1, 0), -2);
    due("n 9", x.type(1, 9), -2);
    due("n MIN", x.type(1, MIN), -2);
    due("n 3", x.type(0x11646364L, 3), 3);
    due("read: a word that is none", x.read(), -10);
    due("clear", x.clear(), 3);
    x.type(0x6472617765727320L, 8);
    x.type(0x333BL, 2);
    due("the highest byte first", x.read(), 1);
    due("so told", x.count(0), 3);
    for (int i = 0; i < 23; i++) x.type(-1, 8);
    due("194 bytes", x.count(4), 194);
    due("7 more", x.type(0, 7), -4);
    due("6 more", x.type(0, 6), 200);
    due("1 more", x.type(0, 1), -4);
    due("BAD ahead of FULL", x.type(0, 9), -2);
    due("still 200", x.clear(), 200);
    due("then none", x.clear(), 0);
    due("count(4)", x.count(4), 0);
    refused("type", x, 4, 0, 2);
  }

  private static void reading() {
    DrawerWall x = new DrawerWall();
    due("empty", x.read(), -10);
    due("blanks alone", readOf(x, "   "), -13);
    due("plain", readOf(x, "drawers 4;"), 1);
    due("no blanks", readOf(x, "drawers3;cord0 1 2-1;catch2;"), 3);
    due("digest", x.digest(), hash(3, 1, 0, 0, 28, 0, 0, 0, 0, 0, 1, 1, 2, 0, 1, 2, -1, 0, 0));
    due("many blanks", readOf(x, "  drawers  2 ;  good 1   5 ; order 5 ;  "), 3);
    due("digest", x.digest(), hash(2, 0, 1, 0, 40, 0, 0, 0, 0, 0, 5, 0, 0, 5));
    long before = x.digest();
    due("too early", readOf(x, "drawers 2; catch"), -10 - 16);
    due("too early behind blanks", readOf(x, "drawers 2 "), -10 - 10);
    due("no end", readOf(x, "drawers 2"), -10 - 9);
    due("no word", readOf(x, "drawer 2;"), -10);
    due("another word", readOf(x, "drawers 2;hood 0 0;"), -10 - 10);
    due("a word to its z", readOf(x, "drawers 2;catchz0;"), -10 - 10);
    due("a longer word", readOf(x, "drawerss 2;"), -10);
    due("letters run on", readOf(x, "drawers 2;catchd 1;"), -10 - 10);
    due("drawers again", readOf(x, "drawers 2;drawers 2;"), -10 - 10);
    due("ahead of drawers", readOf(x, " catch 1;drawers 2;"), -10 - 1);
    due("; ahead of all", readOf(x, ";drawers 2;"), -10);
    due("an empty item", readOf(x, "drawers 2;;"), -10 - 10);
    due("two figures", readOf(x, "drawers 02;"), -10 - 8);
    due("two figures of a cord", readOf(x, "drawers 2;cord 0 10 0 1;"), -10 - 17);
    due("- out of place", readOf(x, "drawers 2;cord 0 1 - 0 1;"), -10 - 19);
    due("- ahead of drawers' number", readOf(x, "drawers - 2;"), -10 - 8);
    due("- twice", readOf(x, "drawers 2;cord 0 1 0 - - 1;"), -10 - 23);
    due("a number too many", readOf(x, "drawers 2;catch 0 1;"), -10 - 18);
    due("a number too few", readOf(x, "drawers 2;good 0;"), -10 - 16);
    due("a great letter", readOf(x, "drawers 2;Catch 0;"), -10 - 10);
    due("a tab", readOf(x, "drawers\t2;"), -10 - 7);
    due("byte 255", readOf(x, "drawers 2;\u00ff"), -10 - 10);
    due("byte 0", readOf(x, "drawers 2\u0000;"), -10 - 9);
    due("a word for a number", readOf(x, "drawers 2;good order 1;"), -10 - 15);
    due("FAULT ahead of a refused ITEM", readOf(x, "drawers 9;good 8 8;x"), -10 - 19);
    due("drawers refused", readOf(x, "drawers 8;"), -1000);
    due("drawers 1", readOf(x, "drawers 1;catch 0;"), -1000);
    due("kind 6", readOf(x, "drawers 2;cord 0 1 6 1;"), -1001);
    due("- 0", readOf(x, "drawers 2;order 1;cord 0 1 0 - 0;"), -1002);
    due("- 3", readOf(x, "drawers 2;cord 0 1 0 - 3;"), -1001);
    due("a catch twice", readOf(x, "drawers 2;catch 1;catch 1;"), -1002);
    due("good 7", readOf(x, "drawers 2;good 0 7;"), -1001);
    String six = "drawers 2;order 0;order 0;order 0;order 0;order 0;order 0;";
    due("nothing was changed", x.digest(), digestWith(x, before));
    due("six orders", readOf(x, six), 7);
    due("seven orders", readOf(x, six + "order 0;"), -1007);
    StringBuilder ten = new StringBuilder("drawers 2;");
    for (int c = 0; c < 10; c++) ten.append("cord 0 1 0 1;");
    due("ten cords", readOf(x, ten.toString()), 11);
    due("eleven cords", readOf(x, ten + "cord 0 1 0 1;"), -1011);
    refused("ITEMS are none of them", x, 0, 0, 0);
    x.pull(0);
    x.put(0, 3);
    x.sight(0, 0);
    due("told anew", readOf(x, "drawers 2;"), 1);
    due("by these alone", x.digest(), hash(2, 0, 0, 0, 10, 0, 0, 0, 0, 0, 1, 0, 0));
  }

  /** The digest before, were THE TEXT then as long as it is now. */
  private static long digestWith(DrawerWall x, long before) {
    long step = 1;
    for (int i = 0; i < 2 + 4 + 2 + 1; i++) step *= 31;
    return before + step * (x.count(4) - 40);
  }

  private static void pulling() {
    DrawerWall x = wallOf(3);
    due("pull(3)", x.pull(3), -2);
    due("pull(-1)", x.pull(-1), -2);
    due("out by 1", x.pull(1), 3);
    due("out by 2", x.pull(1), 6);
    due("in", x.pull(1), 0);
    due("again", x.pull(1), 3);
    due("count(5)", x.count(5), 4);
    due("count(6)", x.count(6), 3);
    x.wall(2);
    x.cord(0, 1, 0, 1);
    x.cord(1, 0, 0, 2);
    due("a cord of a cord is not drawn", x.pull(0), 4);
    due("cut at 2", x.pull(0), 8);
    due("in, the cord as told", x.pull(0), 6);
    refused("pull", x, 2, 0, 0);
  }

  private static void undoing() {
    DrawerWall x = wallOf(2);
    due("none", x.undo(), -3);
    x.pull(0);
    x.cord(0, 1, 0, 1);
    x.caught(1, true);
    x.good(0, 4);
    due("a cord, a catch leave them", x.count(5), 1);
    due("undo", x.undo(), 0);
    due("the cord stays", x.count(1), 1);
    due("then none", x.undo(), -3);
    x.wall(2);
    for (int i = 0; i < 25; i++) x.pull(i % 2);
    due("20 at most", x.count(5), 20);
    int due = x.count(6);
    DrawerWall y = wallOf(2);
    int[] was = new int[25];
    for (int i = 0; i < 25; i++) {
      was[i] = y.count(6);
      y.pull(i % 2);
    }
    due("alike", due, y.count(6));
    for (int i = 24; i >= 5; i--) due("undo " + i, x.undo(), was[i]);
    due("the oldest are gone", x.undo(), -3);
    refused("undo", x, 0, 3, 0);
    DrawerWall z = wallOf(2);
    z.caught(1, true);
    z.pull(0);
    z.pull(0);
    due("a pull that a catch stops", z.pull(1), 2);
    due("is a pull too", z.count(5), 3);
    due("undone: as ahead of it", z.undo(), 2);
    due("undone: as ahead of the one before", z.undo(), 1);
  }

  private static int moved(int kind, int v, int state, int drawer) {
    DrawerWall x = wallOf(3);
    x.cord(0, 1, kind, v);
    return x.behind(state, drawer);
  }

  private static void kindsOf() {
    due("cord, out", moved(0, 1, 3, 0), 1 + 6);
    due("cord, in", moved(0, 1, 2, 0), 3);
    due("cord, less", moved(0, -1, 6, 0), 1 + 3);
    due("cord, cut at 0", moved(0, -2, 3, 0), 1);
    due("cord, cut at 2", moved(0, 2, 3, 0), 1 + 6);
    due("cord of another", moved(0, 1, 3, 1), 6);
    due("slack, shut", moved(1, 2, 0, 0), 1 + 6);
    due("slack, not shut", moved(1, 1, 3, 0), 1 + 3);
    due("slack, less", moved(1, -1, 6, 0), 1 + 6);
    due("crossed, out", moved(2, 1, 3, 0), 1 + 6);
    due("crossed, in", moved(2, 1, 2 + 6, 0), 3);
    due("crossed, less, out", moved(2, -2, 6, 0), 1);
    due("crossed, less, in", moved(2, -2, 2, 0), 6);
    due("heavy", moved(3, 1, 3, 0), 1 + 6);
    due("heavy, one beside open", moved(3, 1, 3 + 18, 0), 1 + 3 + 18);
    due("heavy, one beside half out", moved(3, 1, 3 + 9, 0), 1 + 6 + 9);
    due("heavy, the pulled one is open now", moved(3, 1, 1, 0), 2);
    due("heavy, the pulled one went in", moved(3, 1, 2, 0), 3);
    due("heavy, less", moved(3, -1, 6, 0), 1 + 3);
    due("ratchet, out", moved(4, 1, 3, 0), 1 + 6);
    due("ratchet, nothing", moved(4, -1, 3, 0), 1 + 3);
    due("ratchet, in", moved(4, 1, 2 + 6, 0), 6);
    due("ratchet, less, out", moved(4, -2, 6, 0), 1 + 6);
    due("ratchet, less, in", moved(4, -2, 2, 0), 6);
    due("frayed", moved(5, 2, 0, 0), 1 + 3);
    due("frayed, not shut", moved(5, 2, 3, 0), 1 + 3);
    due("frayed, less", moved(5, -2, 6, 0), 1 + 6);
    DrawerWall x = wallOf(3);
    x.cord(0, 1, 0, 2);
    x.cord(0, 2, 3, 1);
    x.cord(0, 1, 0, -2);
    x.cord(0, 1, 5, 2);
    due("as they come", x.behind(0, 0), 1 + 3);
  }

  private static void behinds() {
    DrawerWall x = wallOf(3);
    due("state 27", x.behind(27, 0), -2);
    due("state -1", x.behind(-1, 0), -2);
    due("drawer 3", x.behind(0, 3), -2);
    due("drawer -1", x.behind(0, -1), -2);
    due("out", x.behind(26, 2), 8);
    due("nothing was pulled", x.count(6), 0);
    refused("behind", x, 4, 0, 0);
    kindsOf();
  }

  private static void outs() {
    DrawerWall x = wallOf(3);
    x.pull(2);
    x.pull(2);
    x.pull(0);
    due("out(0)", x.out(0), 1);
    due("out(1)", x.out(1), 0);
    due("out(2)", x.out(2), 2);
    due("out(3)", x.out(3), -2);
    due("out(-1)", x.out(-1), -2);
    refused("out", x, 2, 0, 0);
  }

  private static void pullRows() {
    DrawerWall x = wallOf(3);
    due("nothing asked", x.pulls(0, 7, -1), 0);
    due("no 0th", x.pulls(0, 7, 0), -5);
    due("two open", x.pulls(5, 2, -1), 4);
    due("the first of rows", x.pulls(5, 0, 0), 0);
    due("1st", x.pulls(5, 0, 1), 0);
    due("2nd", x.pulls(5, 0, 2), 2);
    due("3rd", x.pulls(5, 0, 3), 2);
    due("4th", x.pulls(5, 0, 4), -5);
    due("MAX-th", x.pulls(5, 0, MAX), -5);
    due("one in both", x.pulls(3, 2, -1), -10);
    due("open 8", x.pulls(8, 0, -1), -10);
    due("open -1", x.pulls(-1, 0, -1), -10);
    due("shut 8", x.pulls(0, 8, -1), -10);
    due("shut MIN", x.pulls(0, MIN, -1), -10);
    due("i -2", x.pulls(1, 0, -2), -10);
    refused("-10 is BAD, -5 is none", x, 6, 0, 0);
    x.cord(0, 2, 2, 1);
    x.cord(2, 0, 2, 1);
    // 0 out, 2 with it: 2 pulls; then both are open
    due("by the cords", x.pulls(5, 0, -1), 2);
    due("0 ahead of 2", x.pulls(5, 0, 1), 0);
    x.pull(2);
    due("from how it is now", x.pulls(5, 0, -1), 1);
    due("can not be", x.pulls(1, 4, -1), -1);
    due("can not be, any i", x.pulls(1, 4, 3), -1);
    // 1,0,1; by 0: 2,0,2; by 0: 0,0,1; by 0: 1,0,2; by 2: 0,0,0
    due("back to shut", x.pulls(0, 7, -1), 4);
    due("the first row", x.pulls(0, 7, 2), 0);
    due("its end", x.pulls(0, 7, 3), 2);
    DrawerWall y = wallOf(2);
    y.caught(0, true);
    y.caught(1, true);
    due("both half out first", y.pulls(3, 0, -1), -1);
    y.cord(0, 1, 0, 2);
    // 1,2; 0 is stopped, so 1 goes in; 2,2
    due("by a cord", y.pulls(3, 0, -1), 3);
    due("0, 1, 0", y.pulls(3, 0, 1), 1);
  }

  private static void safeRows() {
    DrawerWall x = wallOf(3);
    x.put(0, 1);
    x.put(1, 2);
    due("no matter", x.safe(4, 0, -1), 2);
    due("poison open, food not shut", x.safe(3, 0, -1), -1);
    due("poison open", x.safe(1, 0, -1), 2);
    due("bad", x.safe(1, 1, -1), -10);
    due("bad i", x.safe(1, 0, -2), -10);
    x.pull(1);
    due("from half-out food: in first", x.safe(1, 0, -1), 4);
    due("pulls does not mind", x.pulls(1, 0, -1), 2);
    due("0th", x.safe(1, 0, 0), 0);
    due("1st", x.safe(1, 0, 1), 1);
    due("2nd", x.safe(1, 0, 2), 1);
    due("3rd", x.safe(1, 0, 3), 0);
    due("4th", x.safe(1, 0, 4), -5);
    x.pull(0);
    x.pull(0);
    due("the first state is a danger", x.safe(0, 0, -1), -1);
    due("any i", x.safe(0, 0, 0), -1);
    refused("safe", x, 2, 0, 0);
  }

  private static void reaches() {
    DrawerWall x = wallOf(2);
    due("all", x.reach(0), 9);
    due("no jam", x.reach(1), 0);
    due("no least", x.reach(2), -1);
    due("what 3", x.reach(3), -2);
    due("what -1", x.reach(-1), -2);
    x.caught(0, true);
    x.caught(1, true);
    due("both open can not be", x.reach(0), 8);
    due("not yet a jam", x.reach(1), 0);
    x.cord(0, 1, 0, 2);
    // 0; 1+6 by 0: then 0 is stopped, 1 goes in: 1; 1 -> 2+6: all stopped. 3, 6, 4, 7 by 1.
    due("jams", x.reach(1), 1);
    due("the least", x.reach(2), 8);
    x.pull(0);
    x.pull(1);
    due("to both open", x.pull(0), 8);
    due("stuck", x.reach(0), 1);
    due("itself", x.reach(1), 1);
    due("itself, told", x.reach(2), 8);
    refused("reach", x, 2, 0, 0);
    DrawerWall y = wallOf(2);
    due("two drawers", y.reach(0), 9);
    y.image(0);
    due("read", readOf(y, "drawers 2;cord 0 1 0 2;cord 1 0 0 2;"), 3);
    due("as read", y.reach(0), 6);
    y.image(1);
    y.from(0);
    due("as in image 0", y.reach(0), 9);
    y.from(1);
    due("as in image 1", y.reach(0), 6);
    y.wall(3);
    due("as on the new wall", y.reach(0), 27);
  }

  private static void keepings() {
    DrawerWall x = wallOf(3);
    due("all can be", x.kept(), -1);
    x.caught(1, true);
    x.pull(0);
    x.pull(0);
    x.cord(0, 2, 0, 2);
    x.cord(2, 0, 0, 2);
    due("1 is stopped while 0 or 2 is open: it is kept", x.kept(), 3);
    x.caught(1, false);
    due("no more", x.kept(), -1);
    DrawerWall y = wallOf(2);
    y.caught(0, true);
    y.caught(1, true);
    y.cord(0, 1, 0, 1);
    y.cord(1, 0, 0, 1);
    // 0,0; 1,1; 2,2 and then a jam: twice the one and once the other, and the other way round
    due("three states", y.reach(0), 3);
    due("the least of two sums", y.kept(), 5);
    y.pull(1);
    due("from within too", y.kept(), 5);
    y.pull(1);
    due("one state keeps all: the least", y.kept(), 1);
    DrawerWall z = wallOf(2);
    z.cord(0, 1, 0, -2);
    z.cord(1, 0, 0, -2);
    due("one out at a time", z.kept(), -1);
  }

  private static void cuts() {
    DrawerWall x = wallOf(2);
    due("no cords", x.cut(), -1);
    x.cord(0, 1, 0, 2);
    due("all nine with it", x.reach(0), 9);
    due("none is better", x.cut(), -1);
    DrawerWall y = wallOf(2);
    y.cord(0, 1, 0, 2);
    y.cord(1, 0, 0, 2);
    // 00, 12, 21, 22, 02, 20: six; without either all nine
    due("six with both", y.reach(0), 6);
    due("of like ones the least", y.cut(), 0);
    DrawerWall z = wallOf(2);
    z.cord(1, 0, 4, 1);
    z.cord(0, 1, 0, -2);
    z.cord(1, 0, 0, -2);
    // each shuts the other: five; without 1 all nine, without 2 also 11 21 22 but not 01 02
    due("five", z.reach(0), 5);
    due("the most", z.cut(), 1);
    due("nothing was cut", z.count(1), 3);
    due("as it was", z.reach(0), 5);
  }

  private static void ties() {
    DrawerWall x = wallOf(2);
    due("all can be open", x.tie(), -1);
    x.cord(0, 1, 0, -2);
    x.cord(1, 0, 0, -2);
    due("each on its own", x.tie(), -1);
    DrawerWall y = wallOf(3);
    y.caught(1, true);
    y.pull(0);
    y.pull(0);
    y.cord(0, 2, 0, 2);
    y.cord(2, 0, 0, 2);
    // 1 is always beside an open one: no pull of it; a cord from 0 opens it
    due("from 0 to 1, by 1", y.tie(), 11);
    due("nothing was tied", y.count(1), 2);
    due("nor learned", y.kept(), 3);
    y.cord(0, 1, 0, -2);
    y.cord(2, 1, 0, -2);
    // now 1 would be shut ahead of the new cord each time; but 2 can be drawn in behind its own
    due("from 0 to 2, by -1", y.tie(), 20);
    for (int i = 0; i < 5; i++) y.cord(0, 2, 0, 2);
    due("9 cords", y.tie(), 20);
    y.cord(0, 2, 0, 2);
    due("none may be added to 10", y.tie(), -1);
    DrawerWall z = wallOf(2);
    z.caught(0, true);
    z.cord(0, 1, 0, 2);
    z.cord(1, 0, 0, -2);
    // by 0: 1,2 and 0 is stopped; by 1: 0,0; were 1 drawn in behind it, 0 could be pulled again
    due("0 can not be open", z.pulls(1, 0, -1), -1);
    due("from 0 to 1, by -1", z.tie(), 10);
    DrawerWall w = wallOf(2);
    w.pull(0);
    w.pull(0);
    w.caught(0, true);
    w.cord(0, 1, 0, 2);
    w.cord(1, 0, 0, -2);
    due("0 is open now", w.tie(), -1);
  }

  private static void days() {
    DrawerWall x = wallOf(3);
    due("no orders: pulls", x.day(0), 0);
    due("no orders: served", x.day(1), 0);
    x.order(2);
    x.order(2);
    x.order(0);
    due("2, nothing, 2", x.day(0), 4);
    due("three", x.day(1), 3);
    x.pull(0);
    due("from all shut", x.day(0), 4);
    x.order(5);
    x.order(1);
    due("the fourth can not be", x.day(1), 3);
    due("left out, with all behind it", x.day(0), 4);
    x.good(1, 5);
    due("the fifth can not be", x.day(1), 4);
    due("six pulls", x.day(0), 6);
    due("what 2", x.day(2), -2);
    due("what -1", x.day(-1), -2);
    DrawerWall y = wallOf(3);
    y.good(2, 0);
    y.order(0);
    y.order(2);
    due("no 2 any more", y.day(1), 1);
    DrawerWall z = wallOf(3);
    z.good(2, 0);
    z.cord(0, 1, 0, 1);
    z.order(0);
    z.order(1);
    // drawers 0 and 2 take two pulls each: the lesser, by which 1 is open too
    due("of like ones the least", z.day(0), 2);
    z.cord(2, 0, 1, 2);
    // now a pull of 2 opens 0 at once: the first order takes one; then 1: two more
    due("the fewest", z.day(0), 3);
    refused("day", x, 2, 0, 0);
    DrawerWall v = wallOf(3);
    v.good(1, 5);
    v.good(2, 5);
    v.cord(0, 2, 0, 2);
    v.cord(2, 1, 0, 2);
    v.order(5);
    v.order(0);
    // 2 is open by a pull of 0, 1 by one of 2: the lesser DRAWER, though its ROW is the later one
    due("the least drawer, then 0", v.day(0), 3);
    DrawerWall u = wallOf(3);
    u.cord(0, 2, 0, 2);
    u.cord(1, 2, 0, 2);
    u.order(2);
    u.order(0);
    due("by the first row: 0 is half out", u.day(0), 2);
  }

  private static void layings() {
    DrawerWall x = wallOf(3);
    due("no orders", x.laid(), -1);
    x.cord(0, 2, 0, 2);
    x.order(1);
    due("2 is open by one pull", x.laid(), 12);
    x.order(2);
    // now 1: two pulls, 2: one more
    due("were 1 in 0: two, and 2 is open too", x.laid(), 1);
    x.good(0, 1);
    // 0 and 1 hold 1, 2 holds 2: by 0 two pulls, then 2 is open too
    due("two", x.day(0), 2);
    due("still none", x.laid(), -1);
    DrawerWall y = wallOf(4);
    y.cord(0, 3, 0, 2);
    y.cord(1, 2, 0, 2);
    y.order(0);
    due("2 and 3 are as good: the first pair", y.laid(), 2);
    DrawerWall z = wallOf(2);
    z.cord(1, 0, 0, -2);
    z.cord(0, 1, 0, -2);
    z.good(0, 5);
    z.order(1);
    z.order(5);
    due("nothing to gain", z.laid(), -1);
    DrawerWall w = wallOf(3);
    w.caught(1, true);
    w.cord(1, 0, 0, 2);
    w.cord(0, 1, 0, -2);
    w.order(1);
    due("1 can never be open", w.day(1), 0);
    w.order(2);
    due("1 in 0 serves both, 1 in 2 one", w.laid(), 1);
    w.none(0);
    w.order(1);
    w.order(0);
    due("1 in 0 serves one, 1 in 2 both", w.laid(), 12);
    due("nothing was laid", w.day(1), 0);
  }

  private static void dangers() {
    DrawerWall x = wallOf(3);
    due("none told", x.danger(26), 0);
    x.put(0, 2);
    x.put(1, 5);
    due("poison half out", x.danger(3 + 2), 0);
    due("poison open, food shut", x.danger(6), 0);
    due("food below half out", x.danger(6 + 1), 1);
    due("food above open", x.danger(6 + 18), 1);
    x.good(0, 4);
    due("no food below", x.danger(6 + 1), 0);
    x.put(0, 1 << 4);
    due("not beside", x.danger(2 + 18), 0);
    x.put(1, 1 << 4);
    x.good(1, 4);
    due("poison and food at once", x.danger(2 + 3), 1);
    due("one alone", x.danger(2), 0);
    due("state 27", x.danger(27), -2);
    due("state -1", x.danger(-1), -2);
    due("state MAX", x.danger(MAX), -2);
    refused("danger", x, 3, 0, 0);
  }

  private static void sightings() {
    DrawerWall x = wallOf(2);
    due("drawer 2", x.sight(2, 0), -2);
    due("drawer -1", x.sight(-1, 0), -2);
    due("state 9", x.sight(0, 9), -2);
    due("state -1", x.sight(0, -1), -2);
    for (int i = 0; i < 8; i++) due("sight " + i, x.sight(i % 2, i), i);
    due("a ninth", x.sight(0, 0), -4);
    due("BAD ahead of FULL", x.sight(0, 9), -2);
    due("count(3)", x.count(3), 8);
    due("the wall is as it was", x.count(6), 0);
    refused("sight", x, 5, 0, 1);
  }

  private static void nones() {
    DrawerWall x = wallOf(2);
    x.order(1);
    x.order(0);
    x.sight(0, 1);
    due("what 2", x.none(2), -2);
    due("what -1", x.none(-1), -2);
    due("no orders", x.none(0), 2);
    due("none left", x.none(0), 0);
    due("sights stay", x.count(3), 1);
    due("no sights", x.none(1), 1);
    due("none left", x.none(1), 0);
    due("digest", x.digest(), hash(2, 0, 0, 0, 0, 0, 0, 0, 0, 0, 1, 0, 0));
    due("told again", x.sight(1, 6), 0);
    due("digest", x.digest(), hash(2, 0, 0, 1, 0, 0, 0, 0, 0, 0, 1, 0, 0, 1, 6));
    refused("none", x, 2, 0, 0);
  }

  private static void fittings() {
    DrawerWall x = wallOf(2);
    due("no cords: the empty set", x.fits(0), 1);
    due("its bits", x.fits(1), 0);
    x.cord(0, 1, 0, 1);
    x.cord(0, 1, 0, 2);
    x.cord(1, 0, 0, 1);
    x.sight(0, 1 + 3);
    due("cord 0 alone, 2 or not", x.fits(0), 2);
    due("least", x.fits(1), 1);
    x.sight(1, 2 + 6);
    due("and cord 2", x.fits(0), 1);
    due("least", x.fits(1), 5);
    x.pull(1);
    due("however it is now", x.fits(1), 5);
    x.caught(1, true);
    due("the catch bars nothing", x.fits(1), 5);
    x.sight(1, 2);
    due("no set: how many", x.fits(0), 0);
    due("no set: least", x.fits(1), -3);
    due("what 2", x.fits(2), -2);
    due("what -1", x.fits(-1), -2);
    refused("fits", x, 2, 1, 0);
    DrawerWall y = wallOf(2);
    for (int c = 0; c < 10; c++) y.cord(0, 1, 0, 1);
    due("all sets", y.fits(0), 1024);
    y.sight(0, 4);
    due("one of ten", y.fits(0), 10);
    y.none(1);
    y.sight(0, 7);
    due("two or more of ten", y.fits(0), 1024 - 11);
    due("the least", y.fits(1), 3);
  }

  private static void images() {
    DrawerWall x = wallOf(2);
    due("image(2)", x.image(2), -2);
    due("image(-1)", x.image(-1), -2);
    due("from(2)", x.from(2), -2);
    due("from(-1)", x.from(-1), -2);
    due("none was kept", x.from(1), -3);
    x.pull(1);
    x.cord(0, 1, 2, -1);
    x.caught(0, true);
    x.good(0, 3);
    x.put(1, 9);
    x.order(2);
    x.sight(1, 3);
    due("image(1)", x.image(1), 1);
    long kept = x.digest();
    due("0 was not", x.from(0), -3);
    x.pull(1);
    x.pull(1);
    x.cord(0, 1, 1, 1);
    x.order(2);
    x.image(0);
    x.wall(4);
    due("from(1)", x.from(1), 1);
    due("all as it was", x.digest(), kept);
    due("undo too", x.undo(), 0);
    due("once", x.undo(), -3);
    due("the image stays", x.from(1), 1);
    due("all as it was", x.digest(), kept);
    x.type(0, 5);
    due("from(0)", x.from(0), 1);
    due("THE TEXT stays", x.count(4), 5);
    due("two cords", x.count(1), 2);
    due("three pulls", x.count(5), 3);
    due("the walk is the image's", x.reach(0), x.reach(0));
    refused("STATUS stays", x, 4, 3, 0);
  }

  private static void statuses() {
    DrawerWall x = new DrawerWall();
    due("status(3)", x.status(3), -1);
    due("status(-1)", x.status(-1), -1);
    due("they count", x.status(0), 2);
    x.undo();
    due("NO", x.status(1), 1);
    for (int i = 0; i < 8; i++) x.order(0);
    due("FULL", x.status(2), 2);
    x.wall(2);
    refused("wall leaves it", x, 2, 1, 2);
  }

  private static void counts() {
    DrawerWall x = wallOf(4);
    x.cord(0, 1, 0, 1);
    x.order(1);
    x.order(1);
    x.sight(0, 0);
    x.type(0, 4);
    x.pull(3);
    int[] due = {4, 1, 2, 1, 4, 1, 27};
    for (int w = 0; w < 7; w++) due("count(" + w + ")", x.count(w), due[w]);
    due("count(7)", x.count(7), -2);
    due("count(-1)", x.count(-1), -2);
    refused("count", x, 2, 0, 0);
  }

  private static void digests() {
    DrawerWall x = wallOf(3);
    x.cord(2, 0, 5, -2);
    x.cord(0, 1, 3, 1);
    x.caught(1, true);
    x.good(2, 0);
    x.put(0, 8);
    x.put(1, 16);
    x.order(6);
    x.order(0);
    x.sight(2, 26);
    x.type(7, 1);
    x.pull(0);
    due("digest", x.digest(), hash(3, 2, 2, 1, 1, 1, 4, 0, 0, 1, 1, 0, 0,
        2, 0, 5, -2, 0, 1, 3, 1, 8, 16, 6, 0, 2, 26));
    due("constants", hash(DrawerWall.NONE, DrawerWall.BAD, DrawerWall.NO, DrawerWall.FULL),
        hash(-1, -2, -3, -4));
  }

  public static void main(String[] args) {
    newObject();
    walls();
    cords();
    catches();
    goods();
    sets();
    orders();
    typing();
    reading();
    pulling();
    undoing();
    behinds();
    outs();
    pullRows();
    safeRows();
    reaches();
    keepings();
    cuts();
    ties();
    days();
    layings();
    dangers();
    sightings();
    nones();
    fittings();
    images();
    statuses();
    counts();
    digests();
    System.out.println(wrong == 0 ? "PromisesTest: all as due" : "PromisesTest: " + wrong + " wrong");
    if (wrong != 0) System.exit(1);
  }
}
