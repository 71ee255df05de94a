/** Terms 2, sentence by sentence: what is asked of PULLS, of CORDS, of GOODS and of SIGHTS. */
final class TermsTwoBounds {
  private TermsTwoBounds() {
  }

  /** Two DRAWERS that stop one another once 1 is open; then only 0, 2 and 4 PULLS lead on. */
  private static DrawerWall caughtPair() {
    DrawerWall x = Bounds.wallOf(2);
    x.caught(0, true);
    x.caught(1, true);
    return x;
  }

  /** 1 stands between two of which one is open at all times: it can never be pulled. */
  private static DrawerWall stuckMiddle(int n) {
    DrawerWall x = Bounds.wallOf(n);
    x.caught(1, true);
    x.pull(0);
    x.pull(0);
    x.cord(0, 2, 0, 2);
    x.cord(2, 0, 0, 2);
    return x;
  }

  @Sentence(of = "Terms", says = "PULLS from how it is now to a STATE in which all of some DRAWERS"
      + " are open, all of some shut: the fewest")
  static void pullsFromNow() {
    DrawerWall x = Bounds.wallOf(3);
    Bounds.due("none told", x.pulls(0, 0, -1), 0);
    Bounds.due("all shut, as they are", x.pulls(0, 7, -1), 0);
    Bounds.due("all open", x.pulls(7, 0, -1), 6);
    Bounds.due("one open, two shut", x.pulls(4, 3, -1), 2);
    x.pull(1);
    Bounds.due("1 out by 1 is not shut", x.pulls(0, 2, -1), 2);
    Bounds.due("1 out by 1 is not open", x.pulls(2, 0, -1), 1);
    Bounds.due("the others are shut", x.pulls(0, 5, -1), 0);
    x.pull(1);
    Bounds.due("1 is open", x.pulls(2, 5, -1), 0);
    Bounds.due("one of two is open", x.pulls(3, 0, -1), 2);
    Bounds.due("one of two is shut", x.pulls(0, 3, -1), 1);
    DrawerWall y = Bounds.wallOf(2);
    y.cord(1, 0, 0, 2);
    Bounds.due("one by the cord", y.pulls(1, 0, -1), 1);
    Bounds.due("two, were 1 to stay shut", y.pulls(1, 2, -1), 2);
  }

  @Sentence(of = "Terms", says = "ROW: the first such one (by DRAWERS).")
  static void firstRow() {
    DrawerWall x = Bounds.wallOf(3);
    int[] due = {0, 0, 2, 2, -5};
    for (int i = 0; i < 5; i++) Bounds.due("0 and 2 open, " + i, x.pulls(5, 0, i), due[i]);
    DrawerWall y = Bounds.wallOf(3);
    y.cord(1, 0, 0, 2);
    y.cord(2, 0, 0, 2);
    Bounds.due("1 or 2 alone", y.pulls(1, 0, -1), 1);
    Bounds.due("1 ahead of 2", y.pulls(1, 0, 0), 1);
    DrawerWall z = Bounds.wallOf(3);
    z.cord(1, 2, 0, 1);
    z.cord(0, 2, 5, 2);
    // 0 moves 2 by 1 if it is shut: 0, 0 leaves it at 1; 0, 1 and 0, 2 and 1, 1 open it
    Bounds.due("two", z.pulls(4, 0, -1), 2);
    Bounds.due("0 first", z.pulls(4, 0, 0), 0);
    Bounds.due("then 1 ahead of 2", z.pulls(4, 0, 1), 1);
  }

  @Sentence(of = "Terms", says = "None: it can not be.")
  static void canNotBe() {
    DrawerWall x = caughtPair();
    Bounds.due("one open, one out by 1", x.behind(4, 0), 5);
    Bounds.due("then the other is stopped", x.behind(5, 1), 5);
    Bounds.due("one open", x.pulls(1, 0, -1), 2);
    Bounds.due("both open", x.pulls(3, 0, -1), -1);
    Bounds.due("both open, the 0th", x.pulls(3, 0, 0), -1);
    x.cord(0, 1, 0, 1);
    Bounds.due("by a cord: 0, 0", x.pulls(3, 0, -1), 2);
  }

  @Sentence(of = "Terms", says = "REACH: how many STATES there are behind any PULLS (this one too).")
  static void reached() {
    for (int n = 2; n <= 7; n++) {
      DrawerWall x = Bounds.wallOf(n);
      Bounds.due("all of " + n, x.reach(0), Bounds.power(n));
      for (int i = 0; i < 4; i++) x.pull(n - 1 - i / 2);
      x.caught(n - 1, true);
      x.caught(n - 2, true);
      Bounds.due("the last two are stuck, of " + n, x.reach(0), Bounds.power(n - 2));
    }
    DrawerWall y = caughtPair();
    Bounds.due("but both open", y.reach(0), 8);
    y.cord(0, 1, 0, 2);
    // 00 12 10 22 01 02 11
    Bounds.due("from all shut", y.reach(0), 7);
    Bounds.due("pull", y.pull(0), 1 + 6);
    Bounds.due("12 10 22 11", y.reach(0), 4);
    y.pull(1);
    y.pull(0);
    Bounds.due("22 alone: this one too", y.reach(0), 1);
  }

  @Sentence(of = "Terms",
      says = "JAM: STATES (of these) that no PULL changes: how many, the least one.")
  static void jams() {
    DrawerWall x = Bounds.wallOf(3);
    for (int d = 0; d < 3; d++) x.caught(d, true);
    for (int d = 0; d < 3; d++) Bounds.due("no PULL changes 22", x.behind(8, d), 8);
    Bounds.due("but it is none of REACH", x.reach(1), 0);
    Bounds.due("so there is no least", x.reach(2), -1);
    x.cord(0, 1, 0, 2);
    x.cord(2, 1, 0, 2);
    // 220 221 122 022: then each is beside an open one
    Bounds.due("four", x.reach(1), 4);
    Bounds.due("the least", x.reach(2), 2 + 6);
    x.pull(2);
    x.pull(1);
    Bounds.due("to a jam", x.pull(2), 18 + 6);
    Bounds.due("this one", x.reach(1), 1);
    Bounds.due("is the least", x.reach(2), 24);
    DrawerWall y = caughtPair();
    y.cord(0, 1, 0, 2);
    y.caught(1, false);
    Bounds.due("1 can be pulled at all times", y.reach(1), 0);
    DrawerWall z = caughtPair();
    z.cord(0, 1, 0, 2);
    z.caught(0, false);
    Bounds.due("0 can be pulled at all times", z.reach(1), 0);
  }

  @Sentence(of = "Terms", says = "KEPT: for numbers w of 0 to 2 for each DRAWER (to the base 3,"
      + " DRAWER 0 lowest; not all 0): the sum of w times how far each is OUT, by 3 left over,"
      + " that is the same in all STATES of REACH: the least such numbers; none.")
  static void keptSum() {
    for (int n = 2; n <= 7; n++) {
      DrawerWall x = Bounds.wallOf(n);
      Bounds.due("none of " + n, x.kept(), -1);
      for (int i = 0; i < 4; i++) x.pull(n - 1 - i / 2);
      x.caught(n - 1, true);
      x.caught(n - 2, true);
      Bounds.due("the lesser one of the stuck, of " + n, x.kept(), Bounds.power(n - 2));
    }
    DrawerWall y = caughtPair();
    y.cord(0, 1, 0, 1);
    y.cord(1, 0, 0, 1);
    // 00 11 22: the sums by 2, 1 are 0 3 6, those by 1, 2 too; by 1, 1 they are 0 2 4
    Bounds.due("2, 1 ahead of 1, 2", y.kept(), 2 + 3);
    y.pull(0);
    y.pull(0);
    Bounds.due("in one STATE all are kept: not all 0", y.kept(), 1);
    Bounds.due("1 in the middle is kept, 1 and 2 shut or not", stuckMiddle(3).kept(), 3);
  }

  @Sentence(of = "Terms", says = "CUT: the CORD without which most STATES are in REACH,"
      + " if more than with it; of like ones the least; none.")
  static void cutCord() {
    DrawerWall x = Bounds.wallOf(2);
    Bounds.due("no cords", x.cut(), -1);
    x.cord(0, 1, 0, 2);
    Bounds.due("all nine with it", x.reach(0), 9);
    Bounds.due("not more without it", x.cut(), -1);
    x.cord(1, 0, 0, 2);
    Bounds.due("six with both", x.reach(0), 6);
    Bounds.due("nine without either: the least", x.cut(), 0);
    DrawerWall y = Bounds.wallOf(2);
    y.cord(1, 0, 4, 1);
    y.cord(1, 0, 0, -2);
    y.cord(0, 1, 0, -2);
    // without 1 there are 01 02 too but no 11; without 2 all nine
    Bounds.due("five", y.reach(0), 5);
    Bounds.due("the most", y.cut(), 2);
    DrawerWall z = Bounds.wallOf(3);
    for (int c = 0; c < 8; c++) z.cord(0, 2, 2, 1);
    z.cord(0, 1, 0, 2);
    z.cord(1, 0, 0, 2);
    Bounds.due("of ten the last but one", z.cut(), 8);
    Bounds.due("none is cut", z.count(1), 10);
  }

  @Sentence(of = "Terms", says = "TIE: of all CORDS of KIND 0 that may be added (from, to, v 1 or -1;"
      + " in this order rising, 1 ahead of -1) that by which most DRAWERS can be open at some time"
      + " (each on its own), if more than now; the first")
  static void tiedCord() {
    Bounds.due("all can be open", Bounds.wallOf(7).tie(), -1);
    DrawerWall own = Bounds.wallOf(2);
    own.cord(0, 1, 0, -2);
    own.cord(1, 0, 0, -2);
    Bounds.due("never both, but each on its own", own.tie(), -1);
    Bounds.due("0 to 1 by 1 opens 1; 0 to 2 by -1 lets it be pulled: the first", stuckMiddle(3).tie(), 11);
    DrawerWall one = Bounds.wallOf(3);
    one.cord(1, 0, 0, 2);
    one.cord(2, 0, 0, 2);
    one.cord(2, 1, 0, 1);
    for (int d = 0; d < 3; d++) one.caught(d, true);
    one.pull(1);
    // 0 to 1: by 1 it opens 1, which goes in, by -1 it shuts 1; either lets 2 be pulled twice
    Bounds.due("1 ahead of -1", one.tie(), 11);
    DrawerWall most = Bounds.wallOf(6);
    for (int i = 0; i < 6; i++) most.pull(i < 4 ? 4 + i / 2 : 0);
    for (int d = 1; d < 6; d += d == 1 ? 2 : 1) most.caught(d, true);
    most.cord(0, 2, 0, 2);
    most.cord(2, 0, 0, 2);
    most.cord(1, 3, 0, 1);
    // 0 to 1 by 1 opens 1 alone; 0 to 2 by -1 lets 1 be pulled, which draws 3 out
    Bounds.due("the most, not the first that is more", most.tie(), 20);
    DrawerWall last = Bounds.wallOf(4);
    for (int i = 0; i < 4; i++) last.pull(i / 2);
    for (int d = 0; d < 3; d++) last.caught(d, true);
    // only 3 can be pulled: drawn in by it, 0 lets 1 go in, and that lets 2 out
    Bounds.due("from the last, by -1", last.tie(), 300);
  }

  @Sentence(of = "Terms", says = "can be open at some time (each on its own)")
  static void tiedAtSomeTime() {
    DrawerWall x = Bounds.wallOf(2);
    x.caught(0, true);
    x.cord(0, 1, 0, 2);
    x.cord(1, 0, 0, -2);
    // by 0: 12, and 0 is stopped; by 1: 00; were 1 drawn in behind it, 0 could be pulled again
    Bounds.due("0 can not be open", x.pulls(1, 0, -1), -1);
    Bounds.due("by the CORD it can", x.tie(), 10);
    DrawerWall y = Bounds.wallOf(2);
    y.pull(0);
    y.pull(0);
    y.caught(0, true);
    y.cord(0, 1, 0, 2);
    y.cord(1, 0, 0, -2);
    Bounds.due("0 is open now, and never again", y.tie(), -1);
    Bounds.due("as it is behind a PULL of 1", y.pull(1), 3);
    Bounds.due("then the CORD is worth it", y.tie(), 10);
  }

  @Sentence(of = "Terms", says = "none (none may be added to 10).")
  static void tiedToTen() {
    DrawerWall x = stuckMiddle(3);
    for (int c = 2; c < 9; c++) x.cord(0, 2, 0, 2);
    Bounds.due("9 CORDS", x.tie(), 11);
    x.cord(0, 2, 0, 2);
    Bounds.due("10 CORDS", x.tie(), -1);
    Bounds.status("that is not refused", x, 0, 0, 0);
  }

  @Sentence(of = "Terms",
      says = "GOODS: what is in each DRAWER (0 .. 6; its number at first; two may be alike).")
  static void goods() {
    DrawerWall x = Bounds.wallOf(7);
    for (int d = 0; d < 7; d++) Bounds.due("its number, " + d, x.good(d, 6 - d), d);
    for (int d = 0; d < 7; d++) Bounds.due("what was told, " + d, x.good(d, 6), 6 - d);
    Bounds.due("GOODS 7", x.good(0, 7), -2);
    Bounds.due("GOODS -1", x.good(0, -1), -2);
    Bounds.due("GOODS 0", x.good(0, 0), 6);
    Bounds.due("alike", x.good(3, 0), 6);
    Bounds.due("still alike", x.good(3, 6), 0);
  }

  @Sentence(of = "Terms", says = "ORDERS 0 .. 5, as they come: GOODS that are wanted.")
  static void orders() {
    DrawerWall x = Bounds.wallOf(3);
    int[] wanted = {0, 2, 0, 6, 1, 2};
    for (int o = 0; o <= 5; o++) Bounds.due("ORDER " + o, x.order(wanted[o]), o);
    Bounds.due("ORDER 6", x.order(0), -4);
    Bounds.due("none has 6: three are served", x.day(1), 3);
    x.good(1, 6);
    Bounds.due("then 1 is wanted", x.day(1), 4);
    x.good(0, 1);
    Bounds.due("0 is wanted first", x.day(1), 0);
  }

  @Sentence(of = "Terms", says = "DAY: from all shut, ORDERS one behind the other:"
      + " each by the fewest PULLS until a DRAWER that holds it is open")
  static void dayFromShut() {
    DrawerWall x = Bounds.wallOf(2);
    Bounds.due("no ORDERS", x.day(0), 0);
    x.order(1);
    Bounds.due("one", x.day(0), 2);
    x.order(1);
    Bounds.due("it is open already", x.day(0), 2);
    x.order(0);
    Bounds.due("two more", x.day(0), 4);
    x.pull(0);
    x.pull(0);
    Bounds.due("from all shut, however it is now", x.day(0), 4);
    x.put(0, 127);
    x.put(1, 127);
    Bounds.due("a DANGER is no matter", x.day(0), 4);
    x.cord(0, 1, 0, 2);
    Bounds.due("1 by a PULL of 0; then one more", x.day(0), 2);
    x.cord(0, 1, 0, -1);
    // 1 is cut at 2, then drawn in by 1: it is open by a PULL of its own; or by two of its own
    Bounds.due("0 to 1, 1 to 1; 1; then one more", x.day(0), 3);
  }

  @Sentence(of = "Terms", says = "(of several such DRAWERS that by which they are fewest,"
      + " of like ones the least; by the first ROW for it)")
  static void dayOfSeveral() {
    DrawerWall x = Bounds.wallOf(3);
    x.good(2, 0);
    x.order(0);
    x.order(1);
    x.cord(0, 1, 0, 1);
    Bounds.due("0 and 2 by two: 0, which opens 1 too", x.day(0), 2);
    x.cord(2, 0, 1, 2);
    Bounds.due("0 by one PULL of 2: then 1 by two", x.day(0), 3);
    DrawerWall y = Bounds.wallOf(3);
    y.good(1, 5);
    y.good(2, 5);
    y.cord(0, 2, 0, 2);
    y.cord(2, 1, 0, 2);
    y.order(5);
    y.order(0);
    Bounds.due("1 by a PULL of 2, 2 by one of 0: 1, then 0 by two", y.day(0), 3);
    DrawerWall z = Bounds.wallOf(3);
    z.cord(0, 2, 0, 2);
    z.cord(1, 2, 0, 2);
    z.order(2);
    z.order(0);
    Bounds.due("2 by a PULL of 0: then 0 by one more", z.day(0), 2);
    z.none(0);
    z.order(2);
    z.order(1);
    Bounds.due("2 by a PULL of 0: then 1 by two", z.day(0), 3);
  }

  @Sentence(of = "Terms", says = "how many PULLS, how many of ORDERS were served before the first"
      + " that can not be (that is left out, with all behind it).")
  static void dayUntilItCanNotBe() {
    DrawerWall x = Bounds.wallOf(2);
    x.order(2);
    x.order(0);
    Bounds.due("the first can not be: PULLS", x.day(0), 0);
    Bounds.due("the first can not be: served", x.day(1), 0);
    x.none(0);
    x.order(0);
    x.order(1);
    x.order(2);
    x.order(0);
    Bounds.due("the third can not be: PULLS", x.day(0), 4);
    Bounds.due("the third can not be: served", x.day(1), 2);
    x.none(0);
    for (int o = 0; o < 6; o++) x.order(o % 2);
    Bounds.due("all six: PULLS", x.day(0), 4);
    Bounds.due("all six: served", x.day(1), 6);
    x.none(0);
    x.caught(1, true);
    x.caught(0, true);
    x.cord(0, 1, 0, 2);
    x.order(1);
    x.order(0);
    x.order(1);
    // 0 opens 1 and is stopped; 1 goes in; 0 opens, and 1 again: a jam
    Bounds.due("to the jam: PULLS", x.day(0), 3);
    Bounds.due("to the jam: served", x.day(1), 3);
  }

  @Sentence(of = "Terms", says = "LAID: were the GOODS of two DRAWERS changed for one another:"
      + " the pair by which the DAY serves most")
  static void laidServesMost() {
    DrawerWall x = Bounds.wallOf(3);
    x.caught(1, true);
    x.cord(1, 0, 0, 2);
    x.cord(0, 1, 0, -2);
    x.order(1);
    // 1 can not be open
    Bounds.due("none is served", x.day(1), 0);
    x.order(0);
    Bounds.due("1 in 0 serves one, 1 in 2 both", x.laid(), 12);
    x.none(0);
    x.order(1);
    x.order(2);
    Bounds.due("1 in 0 serves both, 1 in 2 one", x.laid(), 1);
    x.put(0, 2);
    Bounds.due("nothing is laid", x.day(1), 0);
  }

  @Sentence(of = "Terms", says = "of like ones by the fewest PULLS")
  static void laidFewestPulls() {
    DrawerWall x = Bounds.wallOf(3);
    x.cord(0, 2, 0, 2);
    x.order(1);
    Bounds.due("1 in 0: two PULLS, in 2: one", x.laid(), 12);
    x.order(6);
    Bounds.due("as many are served: the one by fewer", x.laid(), 12);
  }

  @Sentence(of = "Terms", says = "of like ones the first (lesser, other)")
  static void laidFirst() {
    DrawerWall x = Bounds.wallOf(4);
    x.cord(0, 3, 0, 2);
    x.cord(1, 2, 0, 2);
    x.order(0);
    Bounds.due("0 in 2 by 1, in 3 by 0", x.laid(), 2);
    x.good(0, 1);
    x.good(1, 0);
    Bounds.due("0 is in 1: changed with 2 or 3", x.laid(), 12);
  }

  @Sentence(of = "Terms", says = "if it is better so than now; none.")
  static void laidBetter() {
    DrawerWall x = Bounds.wallOf(3);
    Bounds.due("no ORDERS", x.laid(), -1);
    x.order(0);
    Bounds.due("all are as good", x.laid(), -1);
    x.order(5);
    Bounds.due("5 can not be in any", x.laid(), -1);
    x.cord(2, 1, 0, 2);
    Bounds.due("0 in 1 by one PULL of 2", x.laid(), 1);
    x.good(0, 1);
    x.good(1, 0);
    Bounds.due("as it is then", x.laid(), -1);
    x.good(0, 0);
    Bounds.due("0 in both", x.laid(), -1);
  }

  @Sentence(of = "Terms", says = "POISON, FOOD: sets of GOODS (bits of 0 .. 6).")
  static void sets() {
    DrawerWall x = Bounds.wallOf(2);
    x.good(0, 6);
    x.good(1, 0);
    for (int what = 0; what < 2; what++) {
      Bounds.due("none at first", x.put(what, 127), 0);
      Bounds.due("all seven", x.put(what, 128), -2);
      Bounds.due("less than none", x.put(what, -1), -2);
      Bounds.due("all seven stay", x.put(what, 0), 127);
      Bounds.due("none again", x.put(what, 64 >> 6 * what), 0);
    }
    Bounds.due("6 is POISON, 0 is FOOD", x.danger(2 + 3), 1);
    x.put(0, 63);
    Bounds.due("6 is no POISON", x.danger(2 + 3), 0);
    x.put(0, 64);
    x.put(1, 126);
    Bounds.due("0 is no FOOD", x.danger(2 + 3), 0);
  }

  @Sentence(of = "Terms", says = "DANGER of a STATE: a DRAWER with POISON is open,"
      + " and one beside it with FOOD is not shut.")
  static void danger() {
    DrawerWall x = Bounds.wallOf(7);
    x.put(0, 1 << 3);
    x.put(1, 127);
    int open = 2 * 27;
    Bounds.due("it alone", x.danger(open), 0);
    for (int d = 0; d < 7; d++) {
      if (d == 3) continue;
      int p = Bounds.power(d);
      int due = d == 2 || d == 4 ? 1 : 0;
      Bounds.due("open, " + d + " out by 1", x.danger(open + p), due);
      Bounds.due("open, " + d + " open", x.danger(open + 2 * p), due);
      Bounds.due("out by 1, " + d + " open", x.danger(27 + 2 * p), 0);
    }
    x.put(0, 1 << 6);
    x.put(1, 1);
    Bounds.due("the last is not beside the first", x.danger(2 * 729 + 2), 0);
    x.good(2, 6);
    x.good(3, 0);
    Bounds.due("2 with POISON, 3 with FOOD out by 1", x.danger(18 + 27), 1);
    Bounds.due("3 with FOOD open, 2 with POISON out by 1", x.danger(9 + 54), 0);
    x.put(1, 0);
    Bounds.due("no FOOD", x.danger(18 + 54), 0);
  }

  @Sentence(of = "Terms",
      says = "SAFE: as PULLS, but no STATE of the ROW (the first, the last too) is a DANGER.")
  static void safeRows() {
    DrawerWall x = Bounds.wallOf(3);
    x.put(0, 1);
    x.put(1, 2);
    Bounds.due("the last is a DANGER", x.safe(3, 0, -1), -1);
    Bounds.due("as PULLS", x.pulls(3, 0, -1), 4);
    Bounds.due("0 open, 1 shut", x.safe(1, 0, -1), 2);
    x.pull(1);
    int[] due = {0, 1, 1, 0, -5};
    Bounds.due("1 goes in first", x.safe(1, 0, -1), 4);
    for (int i = 0; i < 5; i++) Bounds.due("that ROW, " + i, x.safe(1, 0, i), due[i]);
    Bounds.due("0 may be out by 1", x.pull(0), 1 + 3);
    Bounds.due("the first is none", x.safe(0, 0, -1), 0);
    x.pull(0);
    Bounds.due("the first is a DANGER", x.safe(0, 0, -1), -1);
    Bounds.due("whatever is asked", x.safe(4, 3, -1), -1);
    Bounds.due("the first is a DANGER, the 0th", x.safe(0, 0, 0), -1);
    Bounds.due("PULLS do not mind", x.pulls(0, 0, -1), 0);
    x.put(1, 0);
    Bounds.due("no FOOD, no DANGER", x.safe(0, 0, -1), 0);
  }

  @Sentence(of = "Terms",
      says = "SIGHTS 0 .. 7, as they come: a DRAWER was pulled, then the wall was in a STATE")
  static void sights() {
    DrawerWall x = Bounds.wallOf(2);
    for (int s = 0; s <= 7; s++) Bounds.due("SIGHT " + s, x.sight(s % 2, s), s);
    Bounds.due("SIGHT 8", x.sight(0, 0), -4);
    Bounds.due("eight", x.count(3), 8);
    Bounds.due("nothing was pulled", x.count(6), 0);
    DrawerWall y = Bounds.wallOf(2);
    for (int s = 0; s < 8; s++) y.sight(0, (s + 1) % 3);
    Bounds.due("eight so", y.fits(0), 1);
    y.none(1);
    for (int s = 0; s < 8; s++) y.sight(0, s == 7 ? 3 : (s + 1) % 3);
    Bounds.due("seven so, the eighth not", y.fits(0), 0);
  }

  @Sentence(of = "Terms", says = "(from all shut at first, then from the one told ahead).")
  static void sightsFromTheOneAhead() {
    DrawerWall x = Bounds.wallOf(2);
    x.pull(0);
    x.sight(0, 1);
    Bounds.due("from all shut, however it is now", x.fits(0), 1);
    x.sight(1, 4);
    Bounds.due("from the one ahead", x.fits(0), 1);
    x.sight(1, 3);
    Bounds.due("not from all shut again", x.fits(0), 0);
    x.none(1);
    x.sight(0, 2);
    Bounds.due("the first is from all shut", x.fits(0), 0);
  }

  @Sentence(of = "Terms", says = "FITS: by which sets of CORDS (bits of those that there are)"
      + " all SIGHTS are so: how many, the least bits.")
  static void fits() {
    DrawerWall x = Bounds.wallOf(2);
    Bounds.due("no CORDS: the empty set", x.fits(0), 1);
    Bounds.due("no CORDS: its bits", x.fits(1), 0);
    for (int c = 0; c < 10; c++) {
      x.cord(0, 1, 0, 1);
      Bounds.due("no SIGHTS, CORDS to " + c, x.fits(0), 1 << c + 1);
      Bounds.due("the least of all", x.fits(1), 0);
    }
    x.sight(0, 1);
    Bounds.due("none of ten", x.fits(0), 1);
    x.none(1);
    x.sight(0, 1 + 3);
    Bounds.due("one of ten", x.fits(0), 10);
    Bounds.due("the least", x.fits(1), 1);
    x.none(1);
    x.sight(0, 1 + 6);
    Bounds.due("two or more of ten", x.fits(0), 1024 - 1 - 10);
    Bounds.due("the least two", x.fits(1), 3);
    DrawerWall y = Bounds.wallOf(2);
    for (int c = 0; c < 9; c++) y.cord(0, 1, 0, -1);
    y.cord(0, 1, 0, 2);
    y.sight(0, 1 + 6);
    Bounds.due("the last is drawn last: any of nine", y.fits(0), 512);
    Bounds.due("the least is the last alone", y.fits(1), 512);
    y.caught(0, true);
    y.sight(0, 1 + 6);
    Bounds.due("then a CATCH stops it, by any CORDS", y.fits(0), 512);
    y.sight(0, 2 + 6);
    Bounds.due("not so by any", y.fits(0), 0);
  }
}
