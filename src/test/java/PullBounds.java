/** Promises 11 to 20, sentence by sentence: PULLS and what is asked of them. */
final class PullBounds {
  private static final int[] NO_DRAWER = {Bounds.MIN, -1, 3, Bounds.MAX};

  private PullBounds() {
  }

  /** Two DRAWERS: 0 opens 1, and in the end both stop one another. */
  private static DrawerWall toAJam() {
    DrawerWall x = Bounds.wallOf(2);
    x.caught(0, true);
    x.caught(1, true);
    x.cord(0, 1, 0, 2);
    return x;
  }

  @Sentence(of = "11", says = "A DRAWER is pulled: the STATE then.")
  static void pull() {
    DrawerWall x = Bounds.wallOf(3);
    int[] due = {9, 18, 0};
    for (int i = 0; i < 3; i++) {
      Bounds.due("the last one, " + i, x.pull(2), due[i]);
      Bounds.due("how it is now", x.count(6), due[i]);
      Bounds.due("to be undone", x.count(5), i + 1);
    }
    Bounds.due("the first one", x.pull(0), 1);
    Bounds.due("that one alone", x.out(2), 0);
    DrawerWall y = toAJam();
    Bounds.due("by its CORD", y.pull(0), 1 + 6);
    Bounds.due("1 goes in", y.pull(1), 1);
    Bounds.due("to 22", y.pull(0), 8);
    Bounds.due("stopped", y.pull(0), 8);
    Bounds.due("stopped too", y.pull(1), 8);
    Bounds.status("not refused", y, 0, 0, 0);
  }

  @Sentence(of = "11", says = "BAD.")
  static void pullBad() {
    for (int d : NO_DRAWER) Bounds.bad("pull(" + d + ")", x -> x.pull(d));
    Bounds.due("0", Bounds.wallOf(3).pull(0), 1);
    Bounds.due("2", Bounds.wallOf(3).pull(2), 9);
    Bounds.due("6 of 7", Bounds.wallOf(7).pull(6), 729);
    Bounds.due("7 of 7", Bounds.wallOf(7).pull(7), -2);
  }

  @Sentence(of = "12", says = "UNDO: the STATE then.")
  static void undo() {
    DrawerWall x = toAJam();
    x.pull(0);
    x.pull(1);
    x.pull(0);
    Bounds.due("from 22", x.undo(), 1);
    Bounds.due("how it is now", x.count(6), 1);
    Bounds.due("one less", x.count(5), 2);
    Bounds.due("further", x.undo(), 7);
    Bounds.due("to all shut", x.undo(), 0);
    Bounds.due("none", x.count(5), 0);
  }

  @Sentence(of = "12", says = "NO: none may be.")
  static void undoNo() {
    Bounds.no(Bounds.BARE, "none was pulled", DrawerWall::undo);
    Bounds.no(x -> {
      Bounds.BUSY.on(x);
      for (int i = 0; i < 3; i++) x.undo();
    }, "three pulled, three undone", DrawerWall::undo);
    Bounds.no(x -> {
      Bounds.FILLED.on(x);
      for (int i = 0; i < 20; i++) x.undo();
    }, "twenty undone", DrawerWall::undo);
    Bounds.no(x -> {
      x.pull(0);
      x.wall(4);
    }, "a new wall", DrawerWall::undo);
    Bounds.no(x -> {
      x.pull(0);
      Bounds.readOf(x, "drawers 5;");
    }, "a wall read", DrawerWall::undo);
    DrawerWall y = Bounds.madeBy(Bounds.FILLED);
    for (int i = 0; i < 19; i++) y.undo();
    Bounds.due("the twentieth may be", y.undo() >= 0 ? 1 : 0, 1);
  }

  @Sentence(of = "13", says = "The STATE behind a PULL of a DRAWER in a STATE.")
  static void behind() {
    Bounds.asked(Bounds.BARE, "in the least", x -> x.behind(0, 0), 1);
    Bounds.asked(Bounds.BARE, "in the greatest", x -> x.behind(26, 2), 8);
    Bounds.onlyAsks("the first one", x -> x.behind(1, 0));
    Bounds.onlyAsks("the last one", x -> x.behind(25, 2));
    DrawerWall x = toAJam();
    x.pull(1);
    Bounds.due("in that STATE, not in this one", x.behind(0, 0), 7);
    Bounds.due("stopped", x.behind(8, 0), 8);
    Bounds.due("this one stays", x.count(6), 3);
    Bounds.due("the greatest of 7", Bounds.wallOf(7).behind(2186, 6), 728);
  }

  @Sentence(of = "13", says = "BAD.")
  static void behindBad() {
    for (int s : new int[] {Bounds.MIN, -1, 27, Bounds.MAX}) {
      Bounds.bad("behind(" + s + ", 0)", x -> x.behind(s, 0));
      Bounds.bad("behind(" + s + ", 3)", x -> x.behind(s, 3));
    }
    for (int d : NO_DRAWER) Bounds.bad("behind(0, " + d + ")", x -> x.behind(0, d));
    for (int n = 2; n <= 7; n++) {
      DrawerWall x = Bounds.wallOf(n);
      int most = Bounds.power(n) - 1;
      Bounds.due("the greatest of " + n, x.behind(most, 0), most - 2);
      Bounds.due("one more of " + n, x.behind(most + 1, 0), -2);
    }
  }

  @Sentence(of = "14", says = "How far a DRAWER is OUT.")
  static void out() {
    DrawerWall x = Bounds.wallOf(3);
    x.pull(2);
    x.pull(2);
    x.pull(0);
    int[] due = {1, 0, 2};
    for (int d = 0; d < 3; d++) Bounds.due("out(" + d + ")", x.out(d), due[d]);
    x.pull(2);
    Bounds.due("in again", x.out(2), 0);
    x.undo();
    Bounds.due("undone", x.out(2), 2);
    Bounds.onlyAsks("out(2)", y -> y.out(2));
  }

  @Sentence(of = "14", says = "BAD.")
  static void outBad() {
    for (int d : NO_DRAWER) Bounds.bad("out(" + d + ")", x -> x.out(d));
    Bounds.asked(Bounds.BARE, "out(0)", x -> x.out(0), 0);
    Bounds.asked(Bounds.BARE, "out(2)", x -> x.out(2), 0);
  }

  @Sentence(of = "15", says = "PULLS: how many (i = NONE), the DRAWER of the i-th.")
  static void pulls() {
    int[] due = {4, 0, 0, 2, 2};
    for (int i = -1; i < 4; i++) {
      int at = i;
      Bounds.asked(Bounds.BARE, "i " + i, x -> x.pulls(5, 2, at), due[i + 1]);
      Bounds.onlyAsks("5, 2, " + i, x -> x.pulls(5, 2, at));
    }
    Bounds.asked(Bounds.BARE, "none are asked", x -> x.pulls(0, 0, -1), 0);
    Bounds.asked(Bounds.BARE, "all open", x -> x.pulls(7, 0, -1), 6);
    Bounds.asked(Bounds.BARE, "all shut", x -> x.pulls(0, 7, -1), 0);
    DrawerWall x = Bounds.wallOf(7);
    Bounds.due("all seven", x.pulls(127, 0, -1), 14);
    Bounds.due("the 0th of 14", x.pulls(127, 0, 0), 0);
    Bounds.due("the 13th of 14", x.pulls(127, 0, 13), 6);
  }

  @Sentence(of = "15", says = "-5: not so many.")
  static void pullsNotSoMany() {
    Bounds.asked(Bounds.BARE, "the last of four", x -> x.pulls(5, 2, 3), 2);
    Bounds.asked(Bounds.BARE, "one more", x -> x.pulls(5, 2, 4), -5);
    Bounds.asked(Bounds.BARE, "far more", x -> x.pulls(5, 2, Bounds.MAX), -5);
    Bounds.asked(Bounds.BARE, "the 0th of none", x -> x.pulls(0, 7, 0), -5);
    Bounds.due("the 14th of 14", Bounds.wallOf(7).pulls(127, 0, 14), -5);
  }

  @Sentence(of = "15", says = "NONE: it can not be.")
  static void pullsNone() {
    Bounds.Setup jam = x -> {
      x.wall(2);
      x.caught(0, true);
      x.caught(1, true);
    };
    Bounds.asked(jam, "both open", x -> x.pulls(3, 0, -1), -1);
    Bounds.asked(jam, "both open, the 0th", x -> x.pulls(3, 0, 0), -1);
    Bounds.asked(jam, "both open, far", x -> x.pulls(3, 0, Bounds.MAX), -1);
    Bounds.asked(jam, "one open", x -> x.pulls(2, 1, -1), 2);
  }

  @Sentence(of = "15", says = "BAD: -10: one in both, too.")
  static void pullsBad() {
    for (int d = 0; d < 3; d++) {
      int one = 1 << d;
      Bounds.badBy(-10, "one in both, " + d, x -> x.pulls(one, one, -1));
      Bounds.badBy(-10, "one in both, all shut, " + d, x -> x.pulls(one, 7, 0));
    }
    for (int bits : new int[] {Bounds.MIN, -1, 8, Bounds.MAX}) {
      Bounds.badBy(-10, "open " + bits, x -> x.pulls(bits, 0, -1));
      Bounds.badBy(-10, "shut " + bits, x -> x.pulls(0, bits, -1));
    }
    for (int i : new int[] {Bounds.MIN, -5, -2}) {
      Bounds.badBy(-10, "i " + i, x -> x.pulls(1, 0, i));
    }
    Bounds.asked(Bounds.BARE, "none in both", x -> x.pulls(3, 4, -1), 4);
    Bounds.asked(Bounds.BARE, "none in both, 4", x -> x.pulls(4, 3, -1), 2);
    Bounds.asked(Bounds.BARE, "i -1", x -> x.pulls(1, 0, -1), 2);
    Bounds.asked(Bounds.BARE, "i 0", x -> x.pulls(1, 0, 0), 0);
    for (int n = 2; n <= 7; n++) {
      DrawerWall x = Bounds.wallOf(n);
      Bounds.due("all " + n, x.pulls((1 << n) - 1, 0, -1), 2 * n);
      Bounds.due("one beyond " + n, x.pulls(1 << n, 0, -1), -10);
      Bounds.due("one beyond " + n + ", shut", x.pulls(0, 1 << n, -1), -10);
    }
  }

  @Sentence(of = "16", says = "SAFE, as pulls().")
  static void safe() {
    Bounds.asked(Bounds.BARE, "how many", x -> x.safe(5, 2, -1), 4);
    Bounds.asked(Bounds.BARE, "the 0th", x -> x.safe(5, 2, 0), 0);
    Bounds.asked(Bounds.BARE, "the 3rd", x -> x.safe(5, 2, 3), 2);
    Bounds.asked(Bounds.BARE, "not so many", x -> x.safe(5, 2, 4), -5);
    Bounds.asked(Bounds.BARE, "far more", x -> x.safe(5, 2, Bounds.MAX), -5);
    Bounds.onlyAsks("asks", x -> x.safe(5, 2, -1));
    for (int bits : new int[] {Bounds.MIN, -1, 8, Bounds.MAX}) {
      Bounds.badBy(-10, "open " + bits, x -> x.safe(bits, 0, -1));
      Bounds.badBy(-10, "shut " + bits, x -> x.safe(0, bits, -1));
    }
    Bounds.badBy(-10, "one in both", x -> x.safe(4, 4, -1));
    Bounds.badBy(-10, "i -2", x -> x.safe(1, 0, -2));
    Bounds.badBy(-10, "i MIN", x -> x.safe(1, 0, Bounds.MIN));
    Bounds.Setup beside = x -> {
      x.wall(3);
      x.put(0, 1);
      x.put(1, 2);
    };
    Bounds.asked(beside, "it can not be", x -> x.safe(3, 0, -1), -1);
    Bounds.asked(beside, "it can not be, the 0th", x -> x.safe(3, 0, 0), -1);
    Bounds.asked(beside, "it can be", x -> x.safe(1, 2, -1), 2);
  }

  @Sentence(of = "17", says = "REACH (0); JAM: how many (1), the least (2; NONE: none).")
  static void reach() {
    Bounds.asked(Bounds.BARE, "REACH", x -> x.reach(0), 27);
    Bounds.asked(Bounds.BARE, "no JAM", x -> x.reach(1), 0);
    Bounds.asked(Bounds.BARE, "none is the least", x -> x.reach(2), -1);
    for (int what = 0; what < 3; what++) {
      int asked = what;
      Bounds.onlyAsks("reach(" + what + ")", x -> x.reach(asked));
    }
    DrawerWall x = toAJam();
    Bounds.due("REACH of the pair", x.reach(0), 7);
    Bounds.due("one JAM", x.reach(1), 1);
    Bounds.due("it", x.reach(2), 8);
    Bounds.due("of 7", Bounds.wallOf(7).reach(0), 2187);
  }

  @Sentence(of = "17", says = "BAD.")
  static void reachBad() {
    for (int what : new int[] {Bounds.MIN, -1, 3, Bounds.MAX}) {
      Bounds.bad("reach(" + what + ")", x -> x.reach(what));
    }
  }

  @Sentence(of = "18", says = "KEPT, as a number.")
  static void kept() {
    DrawerWall x = Bounds.wallOf(2);
    x.caught(0, true);
    x.caught(1, true);
    x.cord(0, 1, 0, 1);
    x.cord(1, 0, 0, 1);
    Bounds.due("2 of 0, 1 of 1: 2 and 3", x.kept(), 5);
    x.pull(1);
    x.pull(1);
    Bounds.due("1 of 0 alone: the least of all", x.kept(), 1);
    DrawerWall y = Bounds.wallOf(7);
    for (int i = 0; i < 4; i++) y.pull(5 + i / 2);
    y.caught(5, true);
    y.caught(6, true);
    Bounds.due("1 of 5: 243", y.kept(), 243);
    Bounds.onlyAsks("kept()", DrawerWall::kept);
  }

  @Sentence(of = "18", says = "NONE.")
  static void keptNone() {
    Bounds.asked(Bounds.BARE, "all can be", DrawerWall::kept, -1);
    for (int n = 2; n <= 7; n++) Bounds.due("of " + n, Bounds.wallOf(n).kept(), -1);
  }

  @Sentence(of = "19", says = "CUT.")
  static void cut() {
    Bounds.Setup pair = x -> {
      x.wall(2);
      x.cord(0, 1, 0, 2);
      x.cord(1, 0, 0, 2);
    };
    Bounds.asked(pair, "the least of two", DrawerWall::cut, 0);
    Bounds.Setup last = x -> {
      x.wall(3);
      for (int c = 0; c < 9; c++) x.cord(0, 2, 4, 1);
      x.pull(0);
      x.caught(1, true);
      x.caught(2, true);
      x.cord(0, 1, 0, 2);
    };
    Bounds.asked(last, "of ten", DrawerWall::cut, 9);
    Bounds.onlyAsks("cut()", DrawerWall::cut);
  }

  @Sentence(of = "19", says = "NONE.")
  static void cutNone() {
    Bounds.asked(Bounds.BARE, "no CORDS", DrawerWall::cut, -1);
    Bounds.asked(x -> {
      x.wall(2);
      x.cord(0, 1, 0, 2);
    }, "all can be with it", DrawerWall::cut, -1);
    Bounds.asked(x -> {
      x.wall(2);
      for (int c = 0; c < 3; c++) {
        x.cord(0, 1, 0, 2);
        x.cord(1, 0, 0, 2);
      }
    }, "each is there thrice: none alone helps", DrawerWall::cut, -1);
  }

  @Sentence(of = "20", says = "TIE: 100 times from, 10 times to, and 1, if v is 1.")
  static void tie() {
    Bounds.Setup middle = x -> {
      x.wall(3);
      x.caught(1, true);
      x.pull(0);
      x.pull(0);
      x.cord(0, 2, 0, 2);
      x.cord(2, 0, 0, 2);
    };
    Bounds.asked(middle, "0 to 1 by 1", DrawerWall::tie, 11);
    Bounds.Setup stuck = x -> {
      x.wall(4);
      for (int i = 0; i < 4; i++) x.pull(i / 2);
      for (int d = 0; d < 3; d++) x.caught(d, true);
    };
    Bounds.asked(stuck, "3 to 0 by -1", DrawerWall::tie, 300);
    Bounds.Setup farther = x -> {
      x.wall(7);
      for (int i = 0; i < 4; i++) x.pull(i / 2);
      for (int d = 0; d < 3; d++) x.caught(d, true);
      x.cord(3, 0, 0, 2);
      x.cord(3, 1, 0, 2);
    };
    Bounds.asked(farther, "3 to 0 by -1, of seven", DrawerWall::tie, 300);
    Bounds.onlyAsks("tie()", DrawerWall::tie);
  }

  @Sentence(of = "20", says = "NONE.")
  static void tieNone() {
    Bounds.asked(Bounds.BARE, "all can be open", DrawerWall::tie, -1);
    Bounds.asked(x -> {
      x.wall(2);
      x.caught(0, true);
      x.caught(1, true);
      x.cord(0, 1, 0, 2);
      x.cord(1, 0, 0, 2);
      for (int c = 2; c < 10; c++) x.cord(0, 1, 1, 1);
    }, "10 CORDS", DrawerWall::tie, -1);
  }
}
