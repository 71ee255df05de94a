/** Promises 27 to 31, sentence by sentence: IMAGES, STATUS, what there is. */
final class ThingsBounds {
  private ThingsBounds() {
  }

  @Sentence(of = "27", says = "An IMAGE is kept: 1.")
  static void image() {
    for (int i = 0; i < 2; i++) {
      DrawerWall x = Bounds.madeBy(Bounds.BUSY);
      long was = x.digest();
      Bounds.due("image(" + i + ")", x.image(i), 1);
      Bounds.due("the wall stays", x.digest(), was);
      Bounds.status("not refused", x, 0, 0, 0);
      x.good(0, 0);
      Bounds.due("kept anew", x.image(i), 1);
      x.good(0, 3);
      Bounds.due("the later one", x.from(i), 1);
      Bounds.due("GOODS were 0", x.good(0, 4), 0);
      Bounds.due("then all is as it was", x.digest(), was);
    }
  }

  @Sentence(of = "27", says = "BAD.")
  static void imageBad() {
    for (int i : new int[] {Bounds.MIN, -1, 2, Bounds.MAX}) {
      Bounds.bad("image(" + i + ")", x -> x.image(i));
    }
  }

  @Sentence(of = "28", says = "It goes on from an IMAGE: 1.")
  static void from() {
    DrawerWall x = Bounds.madeBy(Bounds.BUSY);
    long busy = x.digest();
    x.image(0);
    x.wall(7);
    Bounds.typed(x, "drawers 4;cord 0 1 2 - 1;catch 3;good 2 5;order 1;");
    long bare = x.digest();
    x.image(1);
    for (int i = 0; i < 3; i++) {
      Bounds.due("from(0)", x.from(0), 1);
      Bounds.due("busy", x.digest(), busy);
      Bounds.due("of three, by CORDS", x.reach(0), Bounds.madeBy(Bounds.BUSY).reach(0));
      x.pull(2);
      Bounds.due("from(1)", x.from(1), 1);
      Bounds.due("bare", x.digest(), bare);
      Bounds.due("of seven", x.reach(0), 2187);
      x.cord(0, 1, 0, -2);
    }
    Bounds.status("not refused", x, 0, 0, 0);
  }

  @Sentence(of = "28", says = "BAD")
  static void fromBad() {
    for (int i : new int[] {Bounds.MIN, -1, 2, Bounds.MAX}) {
      Bounds.bad("from(" + i + ")", x -> x.from(i));
    }
  }

  @Sentence(of = "28", says = "NO: none was kept.")
  static void fromNo() {
    Bounds.no(Bounds.BARE, "from(0)", x -> x.from(0));
    Bounds.no(Bounds.BARE, "from(1)", x -> x.from(1));
    Bounds.no(Bounds.BUSY, "from(1), 0 was kept", x -> x.from(1));
    Bounds.no(x -> x.image(1), "from(0), 1 was kept", x -> x.from(0));
    Bounds.due("0", Bounds.madeBy(Bounds.BUSY).from(0), 1);
    Bounds.due("1", Bounds.madeBy(Bounds.FILLED).from(1), 1);
  }

  @Sentence(of = "29", says = "STATUS: BAD (0), NO (1), FULL (2).")
  static void status() {
    DrawerWall x = Bounds.wallOf(2);
    for (int i = 0; i < 3; i++) x.wall(8);
    for (int i = 0; i < 2; i++) x.undo();
    for (int i = 0; i < 10; i++) x.order(0);
    Bounds.status("three, two, four", x, 3, 2, 4);
    Bounds.status("asked again", x, 3, 2, 4);
    x.image(0);
    x.wall(3);
    x.from(0);
    Bounds.readOf(x, "drawers 2;");
    Bounds.status("they stay", x, 3, 2, 4);
    for (int what = 0; what < 3; what++) {
      int asked = what;
      Bounds.asked(Bounds.FILLED, "status(" + what + ")", y -> y.status(asked), 0);
    }
    Bounds.status("another object has its own", new DrawerWall(), 0, 0, 0);
  }

  @Sentence(of = "29", says = "-1: another what (counts as BAD).")
  static void statusBad() {
    for (int what : new int[] {Bounds.MIN, -1, 3, Bounds.MAX}) {
      Bounds.badBy(-1, "status(" + what + ")", x -> x.status(what));
    }
    DrawerWall x = new DrawerWall();
    x.status(3);
    x.status(-1);
    Bounds.due("two of them", x.status(0), 2);
  }

  @Sentence(of = "30", says = "How many: 0 DRAWERS, 1 CORDS, 2 ORDERS, 3 SIGHTS, 4 bytes of THE TEXT,"
      + " 5 PULLS that may be undone, 6 the STATE now.")
  static void count() {
    int[] none = {3, 0, 0, 0, 0, 0, 0};
    int[] most = {3, 10, 6, 8, 200, 20};
    for (int what = 0; what < 7; what++) {
      int asked = what;
      Bounds.asked(Bounds.BARE, "none told: " + what, x -> x.count(asked), none[what]);
      if (what < 6) Bounds.asked(Bounds.FILLED, "all told: " + what, x -> x.count(asked), most[what]);
      Bounds.onlyAsks("count(" + what + ")", x -> x.count(asked));
    }
    DrawerWall x = Bounds.wallOf(7);
    for (int i = 0; i < 14; i++) x.pull(i / 2);
    Bounds.due("the greatest STATE", x.count(6), 2186);
    Bounds.due("fourteen PULLS", x.count(5), 14);
    Bounds.due("seven DRAWERS", x.count(0), 7);
  }

  @Sentence(of = "30", says = "BAD.")
  static void countBad() {
    for (int what : new int[] {Bounds.MIN, -1, 7, Bounds.MAX}) {
      Bounds.bad("count(" + what + ")", x -> x.count(what));
    }
  }

  @Sentence(of = "31", says = "h = 761; then h = 31 h + v for each v: count(0) to count(6);"
      + " of DRAWERS whether there is a CATCH (1, 0), GOODS; of CORDS from, to, KIND, v; POISON, FOOD;"
      + " ORDERS; of SIGHTS DRAWER, STATE.")
  static void digest() {
    Bounds.asked(Bounds.BARE, "of a bare wall", DrawerWall::digest, Bounds.hashOfBare(3, 0));
    Bounds.onlyAsks("digest()", DrawerWall::digest);
    DrawerWall x = Bounds.wallOf(2);
    x.caught(1, true);
    x.good(0, 6);
    x.cord(1, 0, 5, -2);
    x.cord(0, 1, 2, 1);
    x.put(0, 9);
    x.put(1, 70);
    x.order(3);
    x.order(5);
    x.sight(1, 8);
    x.sight(0, 2);
    x.type(0, 3);
    x.pull(1);
    Bounds.due("each in its place", x.digest(), Bounds.hash(2, 2, 2, 2, 3, 1, 3 + 0, 0, 6, 1, 1,
        1, 0, 5, -2, 0, 1, 2, 1, 9, 70, 3, 5, 1, 8, 0, 2));
    long h = x.digest();
    x.image(0);
    Bounds.due("IMAGES are not in it", x.digest(), h);
    x.wall(9);
    Bounds.due("STATUS is not in it", x.digest(), h);
    Bounds.typed(x, "abc");
    Bounds.due("what THE TEXT says is not in it", x.digest(), h);
    x.pull(0);
    x.undo();
    Bounds.due("what was undone is not in it", x.digest(), h);
    DrawerWall y = Bounds.madeBy(Bounds.FILLED);
    Bounds.due("of all there can be, beyond a long", y.digest(), hashOfFilled(y.count(6)));
  }

  /** The digest of Bounds.FILLED, from what is told there. */
  private static long hashOfFilled(int state) {
    long h = Bounds.hash(3, 10, 6, 8, 200, 20, state, 1, 0, 0, 6, 1, 2);
    for (int c = 0; c < 10; c++) {
      for (int v : new int[] {c % 3, (c + 1 + c % 2) % 3, c % 6, c % 4 < 2 ? 1 : -2}) h = 31 * h + v;
    }
    for (int v : new int[] {127, 96, 0, 6, 5, 4, 3, 2}) h = 31 * h + v;
    for (int s = 0; s < 8; s++) h = (31 * h + s % 3) * 31 + 3 * s;
    return h;
  }
}
