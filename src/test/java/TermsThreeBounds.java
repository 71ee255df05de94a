/** Terms 3, sentence by sentence, and the sentence on use: PULLING, THE WALL, IMAGES, STATUS. */
final class TermsThreeBounds {
  private static final String TWO = "drawers 2;";

  private TermsThreeBounds() {
  }

  /** Reads a text that has a FAULT at a place; the wall is as it was. */
  private static void fault(String text, int place) {
    Bounds.asked(x -> {
      Bounds.BUSY.on(x);
      Bounds.typed(x, text);
    }, "read() of " + text, DrawerWall::read, -10 - place);
  }

  /** Reads a text of which an ITEM is refused; the wall is as it was. */
  private static void refusedItem(String text, int item) {
    Bounds.asked(x -> {
      Bounds.BUSY.on(x);
      Bounds.typed(x, text);
    }, "read() of " + text, DrawerWall::read, -1000 - item);
  }

  /** Reads a text that has no FAULT, and of which no ITEM is refused. */
  private static DrawerWall fine(String text, int items) {
    DrawerWall x = Bounds.madeBy(Bounds.BUSY);
    Bounds.due("read() of " + text, Bounds.readOf(x, text), items);
    return x;
  }

  @Sentence(of = "What it is", says = "An object is used for at most 512 calls after it has been made")
  static void fiveHundredAndTwelve() {
    DrawerWall x = new DrawerWall();
    int state = 0;
    for (int i = 1; i < 512; i++) {
      state = i % 3;
      Bounds.due("call " + i, x.pull(0), state);
    }
    Bounds.due("the 512th", x.undo(), (state + 2) % 3);
  }

  @Sentence(of = "What it is", says = "what later calls answer is free.")
  static void laterCalls() {
    DrawerWall x = Bounds.madeBy(Bounds.FILLED);
    int came = 0;
    for (int i = 0; i < 1200; i++) {
      x.pull(i % 3);
      x.order(i % 8);
      if (i % 100 == 0) x.laid();
      came++;
    }
    Bounds.due("they come back, whatever they answer", came, 1200);
  }

  @Sentence(of = "Terms", says = "PULLING, one by one: how it is now.")
  static void pulling() {
    DrawerWall x = Bounds.wallOf(2);
    Bounds.due("ahead of any", x.count(6), 0);
    int[] due = {1, 4, 7, 8, 6, 0};
    int[] pulled = {0, 1, 1, 0, 0, 1};
    for (int i = 0; i < 6; i++) {
      Bounds.due("pull " + i, x.pull(pulled[i]), due[i]);
      Bounds.due("how it is", x.count(6), due[i]);
      Bounds.due("asked, not pulled", x.behind(due[i], 0), (due[i] % 3 + 1) % 3 + due[i] / 3 * 3);
    }
  }

  @Sentence(of = "Terms", says = "UNDO: as ahead of the last PULL")
  static void undo() {
    Bounds.no(Bounds.BARE, "undo() of none", DrawerWall::undo);
    DrawerWall x = Bounds.wallOf(2);
    x.pull(0);
    x.pull(1);
    Bounds.due("the second", x.undo(), 1);
    Bounds.due("the first", x.undo(), 0);
    Bounds.due("none is left", x.undo(), -3);
    Bounds.due("as it was", x.count(6), 0);
    x.pull(1);
    Bounds.due("one anew", x.undo(), 0);
  }

  @Sentence(of = "Terms", says = "(20 at most;")
  static void undoTwenty() {
    for (int pulls = 19; pulls <= 22; pulls++) {
      DrawerWall x = Bounds.wallOf(2);
      for (int i = 0; i < pulls; i++) x.pull(0);
      int most = Math.min(20, pulls);
      Bounds.due("of " + pulls, x.count(5), most);
      for (int i = 1; i <= most; i++) Bounds.due("of " + pulls + ", " + i, x.undo(), (pulls - i) % 3);
      Bounds.due("of " + pulls + ", one more", x.undo(), -3);
      Bounds.due("of " + pulls + ", as it is then", x.count(6), (pulls - most) % 3);
    }
    DrawerWall y = Bounds.wallOf(2);
    for (int i = 0; i < 30; i++) y.pull(0);
    for (int i = 0; i < 3; i++) y.undo();
    for (int i = 0; i < 3; i++) y.pull(1);
    Bounds.due("three undone, three more", y.count(5), 20);
    y.pull(1);
    Bounds.due("one beyond", y.count(5), 20);
  }

  @Sentence(of = "Terms", says = "a CORD, a CATCH told leave them; wall() does not).")
  static void undoStays() {
    DrawerWall x = Bounds.wallOf(3);
    x.pull(0);
    x.pull(0);
    x.cord(0, 1, 0, 1);
    Bounds.due("a CORD told", x.count(5), 2);
    x.caught(0, true);
    x.caught(0, false);
    Bounds.due("a CATCH told", x.count(5), 2);
    x.good(0, 5);
    x.put(0, 1);
    x.order(0);
    x.sight(0, 1);
    x.none(0);
    x.none(1);
    x.clear();
    x.wall(8);
    Bounds.due("wall() refused", x.count(5), 2);
    Bounds.due("by no new CORD", x.undo(), 1);
    Bounds.due("wall()", x.wall(3), 3);
    Bounds.due("leaves none", x.count(5), 0);
    Bounds.due("leaves none to be undone", x.undo(), -3);
  }

  @Sentence(of = "Terms", says = "THE WALL is a TEXT (200 bytes at most)")
  static void twoHundredBytes() {
    DrawerWall x = new DrawerWall();
    Bounds.typed(x, Bounds.padded(TWO, 199));
    Bounds.due("199", x.count(4), 199);
    Bounds.due("two more", x.type(0x2020, 2), -4);
    Bounds.due("one more", x.type(';', 1), 200);
    Bounds.due("201", x.type(' ', 1), -4);
    Bounds.due("200", x.count(4), 200);
    Bounds.due("the last one is read", x.read(), -10 - 199);
    fine(Bounds.padded(TWO, 199), 1);
    fine(Bounds.padded(TWO, 200), 1);
    fine(Bounds.padded("", 190) + TWO, 1);
    fault(Bounds.padded("", 191) + "drawers 2", 200);
    StringBuilder many = new StringBuilder(TWO);
    for (int i = 0; i < 23; i++) many.append("good").append(i % 2).append(' ').append(i % 7).append(';');
    Bounds.due("194 bytes", many.length(), 194);
    fine(many + "order1", -210);
    Bounds.due("good told 23 times", fine(many.toString(), 24).good(0, 0), 22 % 7);
  }

  @Sentence(of = "Terms", says = "of ITEMS, each ended by ;")
  static void itemsEnd() {
    fine(TWO, 1);
    fault("drawers 2", 9);
    fine(TWO + "catch 1;", 2);
    fault(TWO + "catch 1", 17);
    fault(TWO + "catch 1 catch 0;", 18);
    fault(TWO + ";", 10);
    fault("drawers 2 ;;", 11);
    fault("drawers;", 7);
    fault(TWO + "cord 0 1 0;", 20);
    fault(TWO + "cord 0 1 0 1 1;", 23);
    fault(TWO + "good 1;", 16);
    fault(TWO + "good 1 1 1;", 19);
    fault(TWO + "order;", 15);
    fault(TWO + "order 1 1;", 18);
  }

  @Sentence(of = "Terms", says = "drawers n (2 .. 7, once, first of all)")
  static void drawersItem() {
    for (int n = 2; n <= 7; n++) {
      DrawerWall x = fine("drawers " + n + ";", 1);
      Bounds.due("DRAWERS", x.count(0), n);
    }
    for (int n : new int[] {0, 1, 8, 9}) refusedItem("drawers " + n + ";", 0);
    refusedItem("drawers 8;catch 0;", 0);
    fault("drawers 2;drawers 2;", 10);
    fault("drawers 2;catch 0;drawers 2;", 18);
    fault("order 0;drawers 2;", 0);
  }

  @Sentence(of = "Terms", says = "cord a b KIND v,")
  static void cordItem() {
    DrawerWall x = fine("drawers 3;cord 0 2 5 2;cord 2 0 0 1;", 3);
    long h = Bounds.hash(3, 2, 0, 0, 36, 0, 0, 0, 0, 0, 1, 0, 2, 0, 2, 5, 2, 2, 0, 0, 1, 0, 0);
    Bounds.due("two CORDS", x.digest(), h);
    refusedItem("drawers 3;cord 0 3 0 1;", 1);
    refusedItem("drawers 3;cord 3 0 0 1;", 1);
    refusedItem("drawers 3;cord 1 1 0 1;", 1);
    refusedItem("drawers 3;cord 0 1 6 1;", 1);
    refusedItem("drawers 3;cord 0 1 0 3;", 1);
    refusedItem("drawers 3;cord 0 1 0 0;", 1);
    StringBuilder ten = new StringBuilder(TWO);
    for (int c = 0; c < 10; c++) ten.append("cord 0 1 0 1;");
    fine(ten.toString(), 11);
    refusedItem(ten + "cord 0 1 0 1;", 11);
  }

  @Sentence(of = "Terms", says = "cord a b KIND - v (below 0)")
  static void cordBelowItem() {
    DrawerWall x = fine("drawers 2;cord 0 1 0 - 1;cord 1 0 0 -2;", 3);
    long h = Bounds.hash(2, 2, 0, 0, 39, 0, 0, 0, 0, 0, 1, 0, 1, 0, -1, 1, 0, 0, -2, 0, 0);
    Bounds.due("two CORDS below 0", x.digest(), h);
    refusedItem("drawers 2;cord 0 1 0 - 3;", 1);
    refusedItem("drawers 2;cord 0 1 0 - 0;", 1);
    fault("drawers 2;cord - 0 1 0 1;", 15);
    fault("drawers 2;cord 0 - 1 0 1;", 17);
    fault("drawers 2;cord 0 1 - 0 1;", 19);
    fault("drawers 2;cord 0 1 0 - - 1;", 23);
    fault("drawers 2;cord 0 1 0 -;", 22);
    fault("drawers 2;cord 0 1 0 1 -;", 23);
  }

  @Sentence(of = "Terms", says = "catch d; good d g; order g.")
  static void otherItems() {
    DrawerWall x = fine("drawers 2;catch 1;good 0 6;order 6;order 0;", 5);
    long h = Bounds.hash(2, 0, 2, 0, 43, 0, 0, 0, 6, 1, 1, 0, 0, 6, 0);
    Bounds.due("all told", x.digest(), h);
    refusedItem("drawers 2;catch 2;", 1);
    refusedItem("drawers 2;catch 1;catch 1;", 2);
    refusedItem("drawers 2;good 2 0;", 1);
    refusedItem("drawers 2;good 0 7;", 1);
    refusedItem("drawers 2;order 7;", 1);
    fine("drawers 2;good 0 1;good 0 1;", 3);
    String six = "drawers 2;order 0;order 0;order 0;order 0;order 0;order 0;";
    fine(six, 7);
    refusedItem(six + "order 0;", 7);
    fault("drawers - 2;", 8);
    fault("drawers 2;catch - 1;", 16);
    fault("drawers 2;good - 1 1;", 15);
    fault("drawers 2;good 1 - 1;", 17);
    fault("drawers 2;order - 1;", 16);
  }

  @Sentence(of = "Terms", says = "TOKENS: words of letters a .. z")
  static void words() {
    fault("drawers 2;az 1;", 10);
    fault("drawers 2;`catch 1;", 10);
    fault("drawers 2;{catch 1;", 10);
    fault("drawers 2;catch`1;", 15);
    fault("drawers 2;catch{1;", 15);
    fault("drawers 2;catcha 1;", 10);
    fault("drawers 2;catchz 1;", 10);
    fault("drawers 2;ccatch 1;", 10);
    fault("drawers 2;catc 1;", 10);
    fault("drawers 2;catc h 1;", 10);
    fault("drawers 2;CATCH 1;", 10);
    fault("drawers 2;Catch 1;", 10);
    fault("drawerS 2;", 0);
  }

  @Sentence(of = "Terms", says = "figures (1 is a number), -, ;")
  static void figures() {
    Bounds.due("0 is one", fine("drawers 2;order 0;", 2).count(2), 1);
    refusedItem("drawers 9;", 0);
    fault("drawers 10;", 8);
    fault("drawers 02;", 8);
    fault("drawers 2222222222222;", 8);
    fault("drawers /;", 8);
    fault("drawers :;", 8);
    fine("drawers 2;cord 0 1 0-1;", 2);
    fault("drawers 2;cord 0 1 0,1;", 20);
    fault("drawers 2;cord 0 1 0 +1;", 21);
    fault("drawers 2:", 9);
    fault("drawers 2<", 9);
  }

  @Sentence(of = "Terms", says = "blanks (32) between.")
  static void blanks() {
    fine("   drawers   2   ;   catch   1   ;   ", 2);
    fine("drawers2;catch1;good0 6;cord0 1 0-2;", 4);
    fault("drawers 2;good 06;", 15);
    fault("drawers\u001f2;", 7);
    fault("drawers!2;", 7);
    fault("drawers\t2;", 7);
    fault("drawers\n2;", 7);
    fault("drawers 2;\u0000", 10);
    fault("drawers 2;\u00a0", 10);
    fault("dra wers 2;", 0);
  }

  @Sentence(of = "Terms",
      says = "FAULT: the place of the first byte of the first TOKEN that can not stand there")
  static void firstFault() {
    fault("x", 0);
    fault(" x", 1);
    fault("drawers 2;  hood 1;good 1 x;", 12);
    fault("drawers 2;good 1   xyz;", 19);
    fault("drawers 9;order 9;order order;", 24);
    fault("drawers 2;order 7;catch 1 1;", 26);
    fault(Bounds.padded(TWO, 199) + "x", 199);
  }

  @Sentence(of = "Terms", says = "(a word that is none")
  static void wordThatIsNone() {
    fault("drawer 2;", 0);
    fault("drawerss 2;", 0);
    fault("wall 2;", 0);
    fault("drawers two;", 8);
    fault("drawers 2;cords 0 1 0 1;", 10);
    fault("drawers 2;cor 0 1 0 1;", 10);
    fault("drawers 2;goods 0 1;", 10);
    fault("drawers 2;goo 0 1;", 10);
    fault("drawers 2;orders 1;", 10);
    fault("drawers 2;orde 1;", 10);
    fault("drawers 2;sight 0 1;", 10);
    fault("drawers 2;c", 10);
  }

  @Sentence(of = "Terms", says = "drawers again")
  static void drawersAgain() {
    fault("drawers 2;drawers 3;", 10);
    fault("drawers 2;catch 0;  drawers", 20);
    fault("drawers drawers;", 8);
  }

  @Sentence(of = "Terms", says = "anything ahead of it")
  static void aheadOfDrawers() {
    fault("cord 0 1 0 1;drawers 2;", 0);
    fault("catch 0;drawers 2;", 0);
    fault("good 0 0;drawers 2;", 0);
    fault(" order 0;drawers 2;", 1);
    fault("2;drawers 2;", 0);
    fault(";drawers 2;", 0);
    fault("-drawers 2;", 0);
    fine(" drawers 2;", 1);
  }

  @Sentence(of = "Terms", says = "a second figure's number")
  static void secondFigure() {
    fault("drawers 22;", 8);
    fault("drawers 2;catch 00;", 16);
    fault("drawers 2;cord 0 1 0 11;", 21);
    fault("drawers 2;cord 0 1 0 -11;", 22);
    fault("drawers 2;cord 10 1 0 1;", 15);
    fault("drawers 2;good 0 12;", 17);
    fault("drawers 2;order 1 2;", 18);
  }

  @Sentence(of = "Terms", says = "a byte that begins none, too)")
  static void byteThatBeginsNone() {
    fault("\u0000", 0);
    fault("\u00ff", 0);
    fault("\u0080drawers 2;", 0);
    fault("drawers 2;,", 10);
    fault("drawers _2;", 8);
    fault("drawers 2\u007f;", 9);
    fault("drawers 2;A", 10);
    fault("drawers 2;Z", 10);
  }

  @Sentence(of = "Terms", says = "the TEXT's length, if it ends too early")
  static void tooEarly() {
    String whole = "drawers 2;cord 0 1 0 - 1;good 1 6;";
    for (int end : new int[] {7, 8, 9, 14, 15, 17, 19, 21, 22, 23, 24, 29, 31, 32, 33}) {
      fault(whole.substring(0, end), end);
    }
    fine(whole.substring(0, 10), 1);
    fine(whole.substring(0, 25), 2);
    fine(whole, 3);
    fault("drawers 2  ", 11);
    fault("drawers 2;catch   ", 18);
  }

  @Sentence(of = "Terms", says = "(an empty one, too).")
  static void emptyText() {
    fault("", 0);
    fault(" ", 1);
    fault(Bounds.padded("", 200), 200);
    Bounds.due("of a new object", new DrawerWall().read(), -10);
  }

  @Sentence(of = "Terms", says = "A WALL without a FAULT is told anew by these alone"
      + " (all shut, no POISON, FOOD, SIGHTS), in their order")
  static void toldAnew() {
    String text = "drawers 3;good 1 5;good 1 4;order 2;order 1;cord 0 1 0 2;cord 0 1 0 -1;catch 2;";
    DrawerWall x = Bounds.madeBy(Bounds.FILLED);
    Bounds.due("eight ITEMS", Bounds.readOf(x, text), 8);
    Bounds.due("by these alone, in their order", x.digest(), Bounds.hash(3, 2, 2, 0, text.length(), 0, 0,
        0, 0, 0, 4, 1, 2, 0, 1, 0, 2, 0, 1, 0, -1, 0, 0, 2, 1));
    Bounds.due("the first CORD, then the second", x.behind(0, 0), 1 + 3);
    Bounds.due("no PULLS to be undone", x.undo(), -3);
    Bounds.due("no SIGHTS", x.fits(0), 4);
    Bounds.due("the TEXT stays: read again", x.read(), 8);
    Bounds.due("an IMAGE stays", x.from(0), 1);
    Bounds.due("with ten CORDS", x.count(1), 10);
    DrawerWall y = Bounds.madeBy(Bounds.FILLED);
    Bounds.due("by the CORDS ahead: not all", y.reach(0) < 27 ? 1 : 0, 1);
    Bounds.due("DRAWERS alone", Bounds.readOf(y, "drawers 7;"), 1);
    Bounds.due("nothing else", y.digest(), Bounds.hashOfBare(7, 10));
    Bounds.due("all can be reached", y.reach(0), 2187);
  }

  @Sentence(of = "Terms",
      says = "the first ITEM (0 on) that is refused (as its call is): nothing changes.")
  static void refusedItems() {
    refusedItem("drawers 1;order 9;", 0);
    refusedItem("drawers 2;order 7;order 8;", 1);
    refusedItem("drawers 2;order 6;order 7;", 2);
    refusedItem("drawers 4;catch 3;cord 0 1 0 1;good 3 3;catch 3;order 1;", 4);
    refusedItem("drawers 4;catch 4;", 1);
    fine("drawers 4;catch 3;", 2);
    String twelve = "drawers2;good0 0;good0 0;good0 0;good0 0;good0 0;good0 0;good0 0;good0 0;good0 0;";
    String most = twelve + twelve.substring(9) + "good0 0;good0 0;good0 0;good0 0;good0 0;";
    fine(most, 24);
    refusedItem(most + "order7;", 24);
  }

  @Sentence(of = "Terms", says = "IMAGES 0, 1 keep all but them, THE TEXT and STATUS")
  static void imagesKeep() {
    DrawerWall x = Bounds.madeBy(Bounds.FILLED);
    long was = x.digest();
    Bounds.due("IMAGE 2", x.image(2), -2);
    Bounds.due("IMAGE -1", x.image(-1), -2);
    Bounds.due("IMAGE 1", x.image(1), 1);
    x.wall(7);
    x.clear();
    Bounds.due("from 1", x.from(1), 1);
    Bounds.due("THE TEXT is as it is now", x.count(4), 0);
    Bounds.due("STATUS too", x.status(0), 2);
    Bounds.typed(x, Bounds.padded("", 200));
    Bounds.due("all else as it was", x.digest(), was);
    Bounds.due("image 0 was another", x.from(0), 1);
    Bounds.due("an IMAGE keeps no IMAGES: 1 is there", x.from(1), 1);
    Bounds.due("and as it was", x.digest(), was);
  }

  @Sentence(of = "Terms", says = "PULLS that may be undone they keep; it goes on from one.")
  static void imagesKeepUndone() {
    DrawerWall x = Bounds.wallOf(2);
    x.pull(0);
    x.pull(1);
    x.image(0);
    for (int i = 0; i < 20; i++) x.pull(0);
    x.image(1);
    Bounds.due("from 0", x.from(0), 1);
    Bounds.due("two", x.count(5), 2);
    Bounds.due("goes on", x.pull(1), 1 + 6);
    Bounds.due("back", x.undo(), 1 + 3);
    Bounds.due("back", x.undo(), 1);
    Bounds.due("back", x.undo(), 0);
    Bounds.due("no further", x.undo(), -3);
    Bounds.due("from 1", x.from(1), 1);
    Bounds.due("twenty", x.count(5), 20);
    x.pull(1);
    Bounds.due("twenty still", x.count(5), 20);
    Bounds.due("from 0 again: it was not changed", x.from(0), 1);
    Bounds.due("two again", x.count(5), 2);
  }

  @Sentence(of = "Terms", says = "STATUS: how many calls were refused as BAD, NO, FULL"
      + " (each answer told so below is such a one; ITEMS are none).")
  static void statusCounts() {
    DrawerWall x = Bounds.wallOf(2);
    Bounds.status("none yet", x, 0, 0, 0);
    x.pull(2);
    Bounds.status("BAD", x, 1, 0, 0);
    x.undo();
    Bounds.status("NO", x, 1, 1, 0);
    for (int o = 0; o < 7; o++) x.order(0);
    Bounds.status("FULL", x, 1, 1, 1);
    Bounds.readOf(x, "drawers 2;catch 2;");
    Bounds.readOf(x, "drawers 2;catch 1;catch 1;");
    Bounds.readOf(x, "drawers 2;order0;order0;order0;order0;order0;order0;order0;");
    Bounds.readOf(x, "none");
    Bounds.status("ITEMS, FAULTS are none", x, 1, 1, 1);
    x.pulls(1, 0, 9);
    x.pulls(3, 0, -1);
    x.reach(2);
    x.kept();
    x.cut();
    x.tie();
    x.laid();
    Bounds.status("-5 and NONE are none", x, 1, 1, 1);
  }

  @Sentence(of = "Terms", says = "Refused, changing nothing but STATUS, the first of: BAD -2 a number"
      + " is not as told; NO -3 as told; FULL -4 (where others are told they count as these).")
  static void firstReason() {
    Bounds.bad("cord, with no room too", x -> x.cord(0, 0, 0, 1));
    Bounds.bad("order, with no room too", x -> x.order(7));
    Bounds.bad("type, with no room too", x -> x.type(0, 9));
    Bounds.bad("sight, with no room too", x -> x.sight(0, 27));
    Bounds.bad("caught, so or not", x -> x.caught(3, false));
    Bounds.bad("from, kept or not", x -> x.from(2));
    Bounds.bad("fits, with a set or none", x -> x.fits(2));
    Bounds.badBy(-10, "pulls, another answer", x -> x.pulls(1, 1, 0));
    Bounds.badBy(-10, "safe, another answer", x -> x.safe(1, 1, 0));
    Bounds.badBy(-1, "status, another answer", x -> x.status(3));
    Bounds.full(Bounds.FILLED, "cord", x -> x.cord(0, 1, 0, 1));
    Bounds.full(Bounds.FILLED, "order", x -> x.order(0));
    Bounds.full(Bounds.FILLED, "type", x -> x.type(0, 1));
    Bounds.full(Bounds.FILLED, "sight", x -> x.sight(0, 0));
    Bounds.no(Bounds.FILLED, "caught", x -> x.caught(0, true));
    Bounds.no(Bounds.BUSY, "from", x -> x.from(1));
    Bounds.no(Bounds.FILLED, "fits", x -> x.fits(1));
    Bounds.no(Bounds.BARE, "undo", DrawerWall::undo);
  }
}
