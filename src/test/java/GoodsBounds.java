/** Promises 21 to 26, sentence by sentence: ORDERS, GOODS, DANGERS and SIGHTS. */
final class GoodsBounds {
  private static final int[] NO_WHAT = {Bounds.MIN, -1, 2, Bounds.MAX};

  private GoodsBounds() {
  }

  @Sentence(of = "21", says = "DAY: PULLS (0), ORDERS served (1).")
  static void day() {
    Bounds.asked(Bounds.BARE, "no ORDERS: PULLS", x -> x.day(0), 0);
    Bounds.asked(Bounds.BARE, "no ORDERS: served", x -> x.day(1), 0);
    Bounds.Setup six = x -> {
      x.wall(3);
      for (int o = 0; o < 6; o++) x.order(o % 3);
    };
    Bounds.asked(six, "all six: PULLS", x -> x.day(0), 6);
    Bounds.asked(six, "all six: served", x -> x.day(1), 6);
    Bounds.Setup third = x -> {
      x.wall(3);
      for (int o = 0; o < 6; o++) x.order(2 * o);
    };
    Bounds.asked(third, "4 can not be: PULLS", x -> x.day(0), 4);
    Bounds.asked(third, "4 can not be: served", x -> x.day(1), 2);
    for (int what = 0; what < 2; what++) {
      int asked = what;
      Bounds.onlyAsks("day(" + what + ")", x -> x.day(asked));
    }
  }

  @Sentence(of = "21", says = "BAD.")
  static void dayBad() {
    for (int what : NO_WHAT) Bounds.bad("day(" + what + ")", x -> x.day(what));
  }

  @Sentence(of = "22", says = "LAID: 10 times the lesser, and the other one.")
  static void laid() {
    Bounds.Setup lastTwo = x -> {
      x.wall(7);
      x.cord(0, 6, 0, 2);
      x.order(5);
    };
    Bounds.asked(lastTwo, "5 in 6, by a PULL of 0", DrawerWall::laid, 56);
    Bounds.Setup firstTwo = x -> {
      x.wall(2);
      x.cord(0, 1, 0, 2);
      x.order(0);
    };
    Bounds.asked(firstTwo, "0 in 1, by a PULL of 0", DrawerWall::laid, 1);
    Bounds.onlyAsks("laid()", DrawerWall::laid);
  }

  @Sentence(of = "22", says = "NONE.")
  static void laidNone() {
    Bounds.asked(Bounds.BARE, "no ORDERS", DrawerWall::laid, -1);
    Bounds.asked(x -> {
      x.wall(7);
      for (int o = 0; o < 6; o++) x.order(o);
    }, "all as good", DrawerWall::laid, -1);
    Bounds.asked(x -> {
      x.wall(2);
      x.cord(0, 1, 0, 2);
      x.order(1);
    }, "it is laid best", DrawerWall::laid, -1);
    Bounds.asked(x -> {
      x.wall(2);
      x.cord(0, 1, 0, 2);
      x.good(0, 1);
      x.good(1, 1);
      x.order(1);
    }, "alike", DrawerWall::laid, -1);
  }

  @Sentence(of = "23", says = "Whether a STATE is a DANGER: 1, 0.")
  static void danger() {
    Bounds.Setup poison = x -> {
      x.wall(3);
      x.put(0, 4);
      x.put(1, 2);
    };
    Bounds.asked(poison, "2 open, 1 out by 1", x -> x.danger(18 + 3), 1);
    Bounds.asked(poison, "2 open, 1 shut", x -> x.danger(18), 0);
    Bounds.asked(poison, "2 out by 1, 1 open", x -> x.danger(9 + 6), 0);
    Bounds.asked(poison, "the greatest STATE", x -> x.danger(26), 1);
    Bounds.asked(poison, "the least", x -> x.danger(0), 0);
    Bounds.onlyAsks("danger(26)", x -> x.danger(26));
    DrawerWall x = Bounds.wallOf(7);
    x.put(0, 64);
    x.put(1, 32);
    Bounds.due("the greatest of 7", x.danger(2186), 1);
  }

  @Sentence(of = "23", says = "BAD.")
  static void dangerBad() {
    for (int s : new int[] {Bounds.MIN, -1, 27, Bounds.MAX}) {
      Bounds.bad("danger(" + s + ")", x -> x.danger(s));
    }
    for (int n = 2; n <= 7; n++) {
      DrawerWall x = Bounds.wallOf(n);
      Bounds.due("the greatest of " + n, x.danger(Bounds.power(n) - 1), 0);
      Bounds.due("one more of " + n, x.danger(Bounds.power(n)), -2);
    }
  }

  @Sentence(of = "24", says = "A SIGHT: its number.")
  static void sight() {
    DrawerWall x = Bounds.wallOf(3);
    for (int s = 0; s < 8; s++) Bounds.due("its number", x.sight(s % 3, 26 - s), s);
    x.none(1);
    Bounds.due("from 0 again", x.sight(2, 26), 0);
    Bounds.due("told", x.digest(), Bounds.hash(3, 0, 0, 1, 0, 0, 0, 0, 0, 0, 1, 0, 2, 0, 0, 2, 26));
  }

  @Sentence(of = "24", says = "BAD")
  static void sightBad() {
    for (int d : new int[] {Bounds.MIN, -1, 3, Bounds.MAX}) {
      Bounds.bad("sight(" + d + ", 0)", x -> x.sight(d, 0));
    }
    for (int s : new int[] {Bounds.MIN, -1, 27, Bounds.MAX}) {
      Bounds.bad("sight(0, " + s + ")", x -> x.sight(0, s));
      Bounds.bad("sight(3, " + s + ")", x -> x.sight(3, s));
    }
    for (int n = 2; n <= 7; n++) {
      DrawerWall x = Bounds.wallOf(n);
      Bounds.due("the least of " + n, x.sight(0, 0), 0);
      Bounds.due("the greatest of " + n, x.sight(n - 1, Bounds.power(n) - 1), 1);
      Bounds.due("one more STATE of " + n, x.sight(n - 1, Bounds.power(n)), -2);
      Bounds.due("one more DRAWER of " + n, x.sight(n, 0), -2);
    }
  }

  @Sentence(of = "24", says = "FULL: 8.")
  static void sightFull() {
    DrawerWall x = Bounds.wallOf(3);
    for (int s = 0; s < 7; s++) x.sight(0, 1);
    Bounds.due("the eighth", x.sight(0, 1), 7);
    Bounds.due("the ninth", x.sight(0, 1), -4);
    Bounds.full(Bounds.FILLED, "a ninth", y -> y.sight(0, 1));
  }

  @Sentence(of = "25", says = "No ORDERS (0), SIGHTS (1): how many there were.")
  static void none() {
    DrawerWall x = Bounds.madeBy(Bounds.FILLED);
    Bounds.due("six ORDERS", x.none(0), 6);
    Bounds.due("no ORDERS", x.count(2), 0);
    Bounds.due("SIGHTS stay", x.count(3), 8);
    Bounds.due("none is served", x.day(1), 0);
    Bounds.due("eight SIGHTS", x.none(1), 8);
    Bounds.due("no SIGHTS", x.count(3), 0);
    Bounds.due("all sets fit", x.fits(0), 1024);
    Bounds.due("none left", x.none(0) + x.none(1), 0);
    Bounds.due("CORDS stay", x.count(1), 10);
    Bounds.due("PULLS stay", x.count(5), 20);
    Bounds.due("of one", x.order(6) + x.none(0), 1);
    Bounds.asked(Bounds.BARE, "none(0) of none", y -> y.none(0), 0);
    Bounds.asked(Bounds.BARE, "none(1) of none", y -> y.none(1), 0);
  }

  @Sentence(of = "25", says = "BAD.")
  static void noneBad() {
    for (int what : NO_WHAT) Bounds.bad("none(" + what + ")", x -> x.none(what));
  }

  @Sentence(of = "26", says = "FITS: how many (0), the least (1).")
  static void fits() {
    Bounds.asked(Bounds.BARE, "no CORDS, no SIGHTS: one set", x -> x.fits(0), 1);
    Bounds.asked(Bounds.BARE, "it is empty", x -> x.fits(1), 0);
    Bounds.Setup two = x -> {
      x.wall(2);
      x.cord(1, 0, 0, 1);
      x.cord(0, 1, 0, 1);
      x.cord(0, 1, 0, 1);
      x.sight(0, 4);
      x.pull(0);
    };
    Bounds.asked(two, "1 or 2, 0 or not", x -> x.fits(0), 4);
    Bounds.asked(two, "1 alone", x -> x.fits(1), 2);
    Bounds.onlyAsks("fits(0)", x -> x.fits(0));
    Bounds.asked(x -> {
      x.wall(2);
      for (int c = 0; c < 10; c++) x.cord(0, 1, 0, c < 9 ? 2 : 1);
      x.sight(0, 4);
    }, "the tenth alone", x -> x.fits(1), 512);
  }

  @Sentence(of = "26", says = "BAD")
  static void fitsBad() {
    for (int what : NO_WHAT) Bounds.bad("fits(" + what + ")", x -> x.fits(what));
  }

  @Sentence(of = "26", says = "NO: none but for 0.")
  static void fitsNo() {
    Bounds.Setup never = x -> {
      Bounds.BUSY.on(x);
      x.none(1);
      x.sight(0, 0);
    };
    Bounds.no(never, "the least of none", x -> x.fits(1));
    Bounds.asked(never, "how many: none", x -> x.fits(0), 0);
    Bounds.no(Bounds.FILLED, "the least of none, of ten", x -> x.fits(1));
    Bounds.asked(Bounds.FILLED, "how many: none, of ten", x -> x.fits(0), 0);
    Bounds.Setup one = x -> {
      x.wall(2);
      x.sight(0, 1);
    };
    Bounds.asked(one, "the least of one", x -> x.fits(1), 0);
  }
}
