/** Promises 1 to 10, sentence by sentence: a wall is told, by calls and by a text. */
final class TellBounds {
  private TellBounds() {
  }

  @Sentence(of = "1", says = "Five DRAWERS, all shut, no CORDS.")
  static void newObject() {
    DrawerWall x = new DrawerWall();
    Bounds.due("five", x.count(0), 5);
    Bounds.due("the last one", x.out(4), 0);
    Bounds.due("no sixth", x.out(5), -2);
    Bounds.due("all shut", x.count(6), 0);
    Bounds.due("no CORDS", x.count(1), 0);
    Bounds.due("nothing else", x.digest(), Bounds.hashOfBare(5, 0));
    Bounds.due("no IMAGE 0", x.from(0), -3);
    Bounds.due("no IMAGE 1", x.from(1), -3);
    Bounds.status("STATUS", x, 1, 2, 0);
    Bounds.due("CORD 0 comes first", x.cord(0, 4, 0, 1), 0);
    Bounds.due("another object has none of it", new DrawerWall().count(1), 0);
  }

  @Sentence(of = "2", says = "n DRAWERS, all shut, nothing else told: what n was.")
  static void wall() {
    int[] n = {2, 7, 3, 3, 6};
    DrawerWall x = Bounds.madeBy(Bounds.FILLED);
    int was = 3;
    for (int many : n) {
      Bounds.due("wall(" + many + ")", x.wall(many), was);
      Bounds.due("nothing else told", x.digest(), Bounds.hashOfBare(many, 200));
      Bounds.due("all can be reached", x.reach(0), Bounds.power(many));
      was = many;
      x.cord(0, 1, 0, -2);
      x.cord(1, 0, 0, -2);
      x.caught(0, true);
      x.pull(many - 1);
      Bounds.due("never both open", x.pulls(3, 0, -1), -1);
    }
    Bounds.due("IMAGES stay", x.from(0), 1);
    Bounds.due("STATUS stays", x.status(0) + x.status(1) + x.status(2), 0);
    Bounds.due("filled again", x.wall(2), 3);
    x.cord(1, 0, 5, 2);
    x.order(3);
    x.sight(1, 7);
    Bounds.due("what is told then is all there is", x.digest(),
        Bounds.hash(2, 1, 1, 1, 200, 0, 0, 0, 0, 0, 1, 1, 0, 5, 2, 0, 0, 3, 1, 7));
  }

  @Sentence(of = "2", says = "BAD.")
  static void wallBad() {
    for (int n : new int[] {1, 8, 0, -2, Bounds.MIN, Bounds.MAX}) {
      Bounds.bad("wall(" + n + ")", x -> x.wall(n));
    }
    Bounds.due("2", new DrawerWall().wall(2), 5);
    Bounds.due("7", new DrawerWall().wall(7), 5);
  }

  @Sentence(of = "3", says = "A CORD: its number.")
  static void cord() {
    DrawerWall x = Bounds.wallOf(7);
    for (int c = 0; c < 10; c++) {
      Bounds.due("its number", x.cord(c % 7, (c + 3) % 7, c % 6, c % 2 == 0 ? 2 : -2), c);
      Bounds.due("so many then", x.count(1), c + 1);
    }
    x.wall(7);
    Bounds.due("from 0 again", x.cord(6, 0, 5, 1), 0);
  }

  @Sentence(of = "3", says = "BAD: DRAWERS alike, too;")
  static void cordBad() {
    for (int d = 0; d < 3; d++) {
      int alike = d;
      Bounds.bad("alike, " + d, x -> x.cord(alike, alike, 0, 1));
    }
    for (int d : new int[] {Bounds.MIN, -1, 3, Bounds.MAX}) {
      Bounds.bad("from " + d, x -> x.cord(d, 1, 0, 1));
      Bounds.bad("to " + d, x -> x.cord(1, d, 0, 1));
      Bounds.bad("from and to " + d, x -> x.cord(d, d, 0, 1));
    }
    for (int k : new int[] {Bounds.MIN, -1, 6, Bounds.MAX}) {
      Bounds.bad("KIND " + k, x -> x.cord(0, 1, k, 1));
    }
    for (int v : new int[] {Bounds.MIN, -3, 0, 3, Bounds.MAX}) {
      Bounds.bad("v " + v, x -> x.cord(0, 1, 0, v));
    }
    DrawerWall x = Bounds.wallOf(3);
    int told = 0;
    for (int from = 0; from < 3; from++) {
      for (int to = 0; to < 3; to++) {
        if (from != to) Bounds.due("from " + from + " to " + to, x.cord(from, to, 5 * (to % 2), -2), told++);
      }
    }
  }

  @Sentence(of = "3", says = "FULL: 10.")
  static void cordFull() {
    DrawerWall x = Bounds.wallOf(3);
    for (int c = 0; c < 9; c++) x.cord(0, 1, 0, 1);
    Bounds.due("the tenth", x.cord(0, 1, 0, 1), 9);
    Bounds.due("the eleventh", x.cord(0, 1, 0, 1), -4);
    Bounds.full(Bounds.FILLED, "an eleventh", y -> y.cord(0, 1, 0, 1));
    Bounds.full(Bounds.FILLED, "an eleventh of another KIND", y -> y.cord(2, 0, 5, -2));
  }

  @Sentence(of = "4", says = "A CATCH, or none: 1.")
  static void caught() {
    DrawerWall x = Bounds.wallOf(3);
    for (int d = 0; d < 3; d++) {
      Bounds.due("one at " + d, x.caught(d, true), 1);
      Bounds.due("it stops", x.behind(d == 1 ? 2 : 6, d), d == 1 ? 2 : 6);
      Bounds.due("none at " + d, x.caught(d, false), 1);
      Bounds.due("it stops no more", x.behind(d == 1 ? 2 : 6, d), (d == 1 ? 2 : 6) + Bounds.power(d));
      Bounds.due("as ahead", x.digest(), Bounds.hashOfBare(3, 0));
    }
    x.caught(2, true);
    Bounds.due("one at the last", x.digest(), Bounds.hash(3, 0, 0, 0, 0, 0, 0, 0, 0, 0, 1, 1, 2, 0, 0));
  }

  @Sentence(of = "4", says = "BAD")
  static void caughtBad() {
    for (int d : new int[] {Bounds.MIN, -1, 3, 32, Bounds.MAX}) {
      Bounds.bad("a CATCH at " + d, x -> x.caught(d, true));
      Bounds.bad("none at " + d, x -> x.caught(d, false));
    }
    Bounds.due("at the first", Bounds.wallOf(3).caught(0, true), 1);
    Bounds.due("at the last", Bounds.wallOf(3).caught(2, true), 1);
  }

  @Sentence(of = "4", says = "NO: it is so.")
  static void caughtNo() {
    for (int d = 0; d < 3; d++) {
      int at = d;
      Bounds.no(Bounds.BARE, "none at " + d, x -> x.caught(at, false));
      Bounds.due("one", Bounds.wallOf(3).caught(d, true), 1);
    }
    Bounds.no(Bounds.BUSY, "one at 1", x -> x.caught(1, true));
    Bounds.no(Bounds.BUSY, "none at 2", x -> x.caught(2, false));
    Bounds.no(Bounds.FILLED, "one at 2", x -> x.caught(2, true));
    Bounds.due("none at 1", Bounds.madeBy(Bounds.BUSY).caught(1, false), 1);
  }

  @Sentence(of = "5", says = "GOODS of a DRAWER: what they were.")
  static void good() {
    DrawerWall x = Bounds.wallOf(3);
    Bounds.due("its number", x.good(2, 0), 2);
    Bounds.due("0", x.good(2, 6), 0);
    Bounds.due("6", x.good(2, 6), 6);
    Bounds.due("of no other", x.good(0, 0), 0);
    Bounds.due("told", x.digest(), Bounds.hash(3, 0, 0, 0, 0, 0, 0, 0, 0, 0, 1, 0, 6, 0, 0));
  }

  @Sentence(of = "5", says = "BAD.")
  static void goodBad() {
    for (int d : new int[] {Bounds.MIN, -1, 3, Bounds.MAX}) {
      Bounds.bad("GOODS of " + d, x -> x.good(d, 0));
    }
    for (int g : new int[] {Bounds.MIN, -1, 7, Bounds.MAX}) {
      Bounds.bad("GOODS " + g, x -> x.good(0, g));
      Bounds.bad("GOODS " + g + " of none", x -> x.good(3, g));
    }
    Bounds.due("6 of the last", Bounds.wallOf(3).good(2, 6), 2);
    Bounds.due("0 of the first", Bounds.wallOf(3).good(0, 0), 0);
  }

  @Sentence(of = "6", says = "POISON (0), FOOD (1), as bits: what it was.")
  static void put() {
    DrawerWall x = Bounds.wallOf(2);
    Bounds.due("POISON", x.put(0, 127), 0);
    Bounds.due("FOOD", x.put(1, 1), 0);
    Bounds.due("told", x.digest(), Bounds.hash(2, 0, 0, 0, 0, 0, 0, 0, 0, 0, 1, 127, 1));
    Bounds.due("POISON was", x.put(0, 0), 127);
    Bounds.due("FOOD was", x.put(1, 64), 1);
    Bounds.due("POISON was none", x.put(0, 2), 0);
    Bounds.due("told then", x.digest(), Bounds.hash(2, 0, 0, 0, 0, 0, 0, 0, 0, 0, 1, 2, 64));
  }

  @Sentence(of = "6", says = "BAD.")
  static void putBad() {
    for (int what : new int[] {Bounds.MIN, -1, 2, Bounds.MAX}) {
      Bounds.bad("put " + what, x -> x.put(what, 1));
    }
    for (int bits : new int[] {Bounds.MIN, -1, 128, Bounds.MAX}) {
      Bounds.bad("POISON " + bits, x -> x.put(0, bits));
      Bounds.bad("FOOD " + bits, x -> x.put(1, bits));
    }
    for (int what = 0; what < 2; what++) {
      Bounds.due("127", Bounds.wallOf(3).put(what, 127), 0);
      Bounds.due("0", Bounds.wallOf(3).put(what, 0), 0);
    }
  }

  @Sentence(of = "7", says = "An ORDER: its number.")
  static void order() {
    DrawerWall x = Bounds.wallOf(2);
    for (int o = 0; o < 6; o++) Bounds.due("its number", x.order(o == 5 ? 6 : 0), o);
    x.none(0);
    Bounds.due("from 0 again", x.order(1), 0);
    Bounds.due("told", x.digest(), Bounds.hash(2, 0, 1, 0, 0, 0, 0, 0, 0, 0, 1, 0, 0, 1));
  }

  @Sentence(of = "7", says = "BAD")
  static void orderBad() {
    for (int g : new int[] {Bounds.MIN, -1, 7, Bounds.MAX}) {
      Bounds.bad("ORDER of " + g, x -> x.order(g));
    }
    Bounds.due("of 0", Bounds.wallOf(3).order(0), 0);
    Bounds.due("of 6, which no DRAWER holds", Bounds.wallOf(3).order(6), 0);
  }

  @Sentence(of = "7", says = "FULL: 6.")
  static void orderFull() {
    DrawerWall x = Bounds.wallOf(3);
    for (int o = 0; o < 5; o++) x.order(0);
    Bounds.due("the sixth", x.order(0), 5);
    Bounds.due("the seventh", x.order(0), -4);
    Bounds.full(Bounds.FILLED, "a seventh", y -> y.order(0));
  }

  @Sentence(of = "8", says = "The lowest n (1 .. 8) bytes of v")
  static void typeLowest() {
    String text = "drawers 2;";
    for (int n = 1; n <= 8; n++) {
      DrawerWall x = new DrawerWall();
      Bounds.due("n " + n, x.type(-1L, n), n);
      x.clear();
      int at = 0;
      while (at < text.length()) {
        int many = Math.min(n, text.length() - at);
        long v = -1;
        for (int k = 0; k < many; k++) v = v << 8 | text.charAt(at + k);
        at += many;
        Bounds.due("by " + n, x.type(v, many), at);
      }
      Bounds.due("no higher bytes came, by " + n, x.read(), 1);
    }
  }

  @Sentence(of = "8", says = "the highest of them first, come to THE TEXT")
  static void typeHighestFirst() {
    DrawerWall x = new DrawerWall();
    x.type(0x6472617765727320L, 8);
    Bounds.due("drawers, a blank, 4;", x.type(0x343B, 2), 10);
    Bounds.due("one ITEM", x.read(), 1);
    Bounds.due("DRAWERS", x.count(0), 4);
    x.clear();
    x.type(0x8072617765727320L, 8);
    Bounds.due("a highest byte above 127", x.read(), -10);
    x.clear();
    x.type(0x64726177657273FFL, 8);
    Bounds.due("a lowest byte 255", x.read(), -17);
  }

  @Sentence(of = "8", says = "how many it has.")
  static void typeCounts() {
    DrawerWall x = new DrawerWall();
    Bounds.due("1", x.type(0, 1), 1);
    Bounds.due("9", x.type(0, 8), 9);
    for (int i = 0; i < 23; i++) x.type(0, 8);
    Bounds.due("199", x.type(0, 6), 199);
    Bounds.due("200", x.type(0, 1), 200);
    Bounds.due("so many", x.count(4), 200);
  }

  @Sentence(of = "8", says = "BAD")
  static void typeBad() {
    for (int n : new int[] {Bounds.MIN, -1, 0, 9, Bounds.MAX}) {
      Bounds.bad("n " + n, x -> x.type(0x3B, n));
    }
    Bounds.due("n 1", new DrawerWall().type(Long.MIN_VALUE, 1), 1);
    Bounds.due("n 8", new DrawerWall().type(Long.MIN_VALUE, 8), 8);
  }

  @Sentence(of = "8", says = "FULL.")
  static void typeFull() {
    for (int n = 1; n <= 8; n++) {
      int many = n;
      Bounds.Setup justNot = x -> {
        Bounds.BUSY.on(x);
        Bounds.typed(x, Bounds.padded("drawers 2;order 1;", 201 - many));
      };
      Bounds.full(justNot, "n " + n + " to " + (201 - n), x -> x.type(0x2020202020202020L, many));
      DrawerWall x = Bounds.madeBy(justNot);
      if (n > 1) Bounds.due("one less", x.type(0x2020202020202020L, n - 1), 200);
      Bounds.due("that is read", x.read(), 2);
    }
    Bounds.full(Bounds.FILLED, "one to 200", x -> x.type(0x3B, 1));
    Bounds.full(Bounds.FILLED, "eight to 200", x -> x.type(0x3B, 8));
  }

  @Sentence(of = "9", says = "THE TEXT is empty: how many it had.")
  static void clear() {
    Bounds.asked(Bounds.BARE, "clear() of none", DrawerWall::clear, 0);
    DrawerWall x = Bounds.madeBy(Bounds.FILLED);
    long was = x.digest();
    Bounds.due("of 200", x.clear(), 200);
    Bounds.due("none", x.count(4), 0);
    Bounds.due("again", x.clear(), 0);
    Bounds.due("it is an empty one", x.read(), -10);
    Bounds.due("of one", x.type(0, 1) + x.clear(), 2);
    Bounds.typed(x, Bounds.padded("", 200));
    Bounds.due("all else as it was", x.digest(), was);
  }

  @Sentence(of = "10", says = "THE WALL is read: how many ITEMS.")
  static void read() {
    Bounds.due("one", Bounds.readOf(new DrawerWall(), "drawers 2;"), 1);
    StringBuilder most = new StringBuilder("drawers7;");
    for (int d = 0; d < 7; d++) most.append("catch").append(d).append(';');
    for (int o = 0; o < 6; o++) most.append("order").append(o).append(';');
    for (int i = 0; i < 12; i++) most.append("good").append(i % 7).append(' ').append(i % 5).append(';');
    DrawerWall x = Bounds.madeBy(Bounds.FILLED);
    Bounds.due("196 bytes", most.length(), 196);
    Bounds.due("26", Bounds.readOf(x, most.toString()), 26);
    Bounds.due("read again", x.read(), 26);
    Bounds.due("DRAWERS", x.count(0), 7);
    Bounds.due("ORDERS", x.count(2), 6);
    Bounds.status("none is refused", x, 0, 0, 0);
  }

  @Sentence(of = "10", says = "-10 less the FAULT")
  static void readFault() {
    Bounds.asked(Bounds.BARE, "of none", DrawerWall::read, -10);
    Bounds.asked(x -> {
      Bounds.FILLED.on(x);
      Bounds.typed(x, Bounds.padded("drawers 2", 200));
    }, "at 200", DrawerWall::read, -210);
    Bounds.asked(x -> {
      Bounds.FILLED.on(x);
      Bounds.typed(x, Bounds.padded("drawers 2", 199) + "x");
    }, "at 199", DrawerWall::read, -209);
    Bounds.asked(x -> {
      Bounds.FILLED.on(x);
      Bounds.typed(x, "-");
    }, "at 0", DrawerWall::read, -10);
  }

  @Sentence(of = "10",
      says = "-1000 less the number of the first ITEM that is refused: nothing changes.")
  static void readRefused() {
    String first = "drawers 3;cord 0 1 0 1;catch 0;good 0 6;order 0;";
    for (String t : new String[] {"catch 0;", "catch 3;", "good 3 0;", "cord 0 0 0 1;", "order 7;"}) {
      Bounds.asked(x -> {
        Bounds.FILLED.on(x);
        Bounds.typed(x, first + t + "order 8;");
      }, "the 5th, " + t, DrawerWall::read, -1005);
    }
    Bounds.asked(x -> {
      Bounds.FILLED.on(x);
      Bounds.typed(x, "drawers 1;");
    }, "the 0th", DrawerWall::read, -1000);
    Bounds.due("none of them", Bounds.readOf(new DrawerWall(), first), 5);
  }
}
