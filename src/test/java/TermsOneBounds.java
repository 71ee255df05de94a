/** Terms 1, sentence by sentence: DRAWERS, CATCHES, STATES, CORDS and their KINDS. */
final class TermsOneBounds {
  private static final int[] BY = {-2, -1, 1, 2};

  private TermsOneBounds() {
  }

  @Sentence(of = "Terms", says = "DRAWERS 0 to n less 1 (n 2 .. 7; 5 at first) in a row")
  static void drawers() {
    DrawerWall x = new DrawerWall();
    Bounds.due("5 at first: out(4)", x.out(4), 0);
    Bounds.due("5 at first: out(5)", x.out(5), -2);
    Bounds.due("n 1", x.wall(1), -2);
    Bounds.due("n 8", x.wall(8), -2);
    Bounds.due("still 5", x.count(0), 5);
    for (int n = 2; n <= 7; n++) {
      Bounds.due("wall(" + n + ")", x.wall(n), n == 2 ? 5 : n - 1);
      Bounds.due("its last of " + n, x.pull(n - 1), Bounds.power(n - 1));
      Bounds.due("one beyond of " + n, x.pull(n), -2);
      Bounds.due("one ahead of " + n, x.pull(-1), -2);
      Bounds.due("its first of " + n, x.pull(0), Bounds.power(n - 1) + 1);
      Bounds.due("two pulls of " + n, x.count(5), 2);
    }
    Bounds.due("n 1 behind n 7", x.wall(1), -2);
    Bounds.due("n 8 behind n 7", x.wall(8), -2);
    Bounds.due("still 7", x.count(0), 7);
  }

  @Sentence(of = "Terms", says = "each OUT by 0 (shut), 1, 2 (open) parts")
  static void parts() {
    for (int n = 2; n <= 7; n++) {
      DrawerWall x = Bounds.wallOf(n);
      for (int d = 0; d < n; d++) {
        int p = Bounds.power(d);
        int[] due = {1, 2, 0};
        Bounds.due("shut", x.out(d), 0);
        for (int i = 0; i < 3; i++) {
          Bounds.due("pull " + i + " of " + d, x.pull(d), due[i] * p);
          Bounds.due("out of " + d, x.out(d), due[i]);
        }
      }
      int all = Bounds.power(n) - 1;
      Bounds.due("all out by 2", x.behind(all, n - 1), all - 2 * Bounds.power(n - 1));
      Bounds.due("no more than 2 each", x.behind(all + 1, n - 1), -2);
    }
  }

  @Sentence(of = "Terms", says = "a CATCH (or none, at first)")
  static void noCatchAtFirst() {
    DrawerWall x = new DrawerWall();
    for (int d = 0; d < 5; d++) {
      Bounds.due("none at " + d, x.caught(d, false), -3);
      Bounds.due("one at " + d, x.caught(d, true), 1);
    }
    x.wall(5);
    for (int d = 0; d < 5; d++) Bounds.due("none at " + d + " anew", x.caught(d, false), -3);
  }

  @Sentence(of = "Terms",
      says = "one with a CATCH can not be pulled while one beside it (the number 1 less, 1 more) is open")
  static void caughtWhileBesideIsOpen() {
    for (int n = 2; n <= 7; n++) {
      for (int d = 0; d < n; d++) {
        DrawerWall x = Bounds.wallOf(n);
        x.caught(d, true);
        for (int e = 0; e < n; e++) {
          if (e == d) continue;
          int part = Bounds.power(e);
          int p = Bounds.power(d);
          boolean isBeside = e == d - 1 || e == d + 1;
          String at = n + " drawers, a catch at " + d + ", " + e;
          Bounds.due(at + " out by 1", x.behind(part, d), part + p);
          Bounds.due(at + " open", x.behind(2 * part, d), 2 * part + (isBeside ? 0 : p));
          Bounds.due(at + " open, in", x.behind(2 * part + 2 * p, d), 2 * part + (isBeside ? 2 * p : 0));
          Bounds.due(at + " has none", x.behind(2 * p, e), 2 * p + part);
        }
      }
    }
  }

  @Sentence(of = "Terms", says = "nothing is changed by such a PULL.")
  static void stoppedPull() {
    DrawerWall x = Bounds.wallOf(3);
    x.cord(1, 2, 0, 1);
    x.cord(1, 0, 0, -2);
    x.caught(1, true);
    x.pull(0);
    Bounds.due("beside it out by 1", x.pull(1), 3 + 9);
    x.undo();
    x.pull(0);
    Bounds.due("beside it open", x.pull(1), 2);
    for (int d = 0; d < 3; d++) Bounds.due("out(" + d + ")", x.out(d), d == 0 ? 2 : 0);
    int[] due = {3, 2, 0, 0, 0};
    for (int w = 0; w < 5; w++) Bounds.due("count(" + w + ")", x.count(w), due[w]);
    Bounds.due("count(6)", x.count(6), 2);
    Bounds.due("a jam of it alone", x.behind(2, 1), 2);
    Bounds.due("undone: as ahead of it", x.undo(), 2);
    Bounds.status("it is answered, not refused", x, 0, 0, 0);
  }

  @Sentence(of = "Terms",
      says = "A STATE: how far all are OUT, as a number to the base 3, DRAWER 0 lowest.")
  static void states() {
    for (int n = 2; n <= 7; n++) {
      DrawerWall x = Bounds.wallOf(n);
      int state = 0;
      for (int d = 0; d < n; d++) {
        state += Bounds.power(d);
        Bounds.due("by 1: " + d + " of " + n, x.pull(d), state);
      }
      int most = Bounds.power(n) - 1;
      Bounds.due("the least STATE", x.danger(0), 0);
      Bounds.due("one less", x.danger(-1), -2);
      Bounds.due("the greatest STATE", x.danger(most), 0);
      Bounds.due("one more", x.danger(most + 1), -2);
    }
  }

  @Sentence(of = "Terms", says = "All are shut at first.")
  static void shutAtFirst() {
    DrawerWall x = new DrawerWall();
    Bounds.due("the STATE of a new one", x.count(6), 0);
    for (int d = 0; d < 5; d++) Bounds.due("out(" + d + ")", x.out(d), 0);
    x.pull(4);
    x.wall(7);
    Bounds.due("the STATE of a new wall", x.count(6), 0);
    for (int d = 0; d < 7; d++) Bounds.due("out(" + d + ") anew", x.out(d), 0);
  }

  @Sentence(of = "Terms", says = "CORDS 0 .. 9, as they come")
  static void cordsZeroToNine() {
    DrawerWall x = Bounds.wallOf(2);
    for (int c = 0; c <= 9; c++) Bounds.due("CORD " + c, x.cord(0, 1, 2, c < 9 ? 1 : -2), c);
    Bounds.due("CORD 10", x.cord(0, 1, 2, 2), -4);
    Bounds.due("ten", x.count(1), 10);
    Bounds.due("the tenth is drawn last", x.behind(0, 0), 1);
    Bounds.due("the tenth, in", x.behind(2, 0), 6);
  }

  @Sentence(of = "Terms", says = "from a DRAWER to another one, of a KIND, by v (-2 to 2, not 0).")
  static void cordsNumbers() {
    DrawerWall x = Bounds.wallOf(4);
    int told = 0;
    for (int v : BY) Bounds.due("v " + v, x.cord(0, 3, 0, v), told++);
    for (int v : new int[] {-3, 0, 3}) Bounds.due("v " + v, x.cord(0, 3, 0, v), -2);
    Bounds.due("KIND 5", x.cord(3, 0, 5, 1), told++);
    Bounds.due("KIND 6", x.cord(3, 0, 6, 1), -2);
    Bounds.due("KIND -1", x.cord(3, 0, -1, 1), -2);
    for (int d = 0; d < 4; d++) Bounds.due("from and to " + d, x.cord(d, d, 0, 1), -2);
    Bounds.due("to the next one", x.cord(1, 2, 0, 1), told++);
    Bounds.due("from 4", x.cord(4, 0, 0, 1), -2);
    Bounds.due("to 4", x.cord(0, 4, 0, 1), -2);
    Bounds.due("from -1", x.cord(-1, 0, 0, 1), -2);
    Bounds.due("to -1", x.cord(0, -1, 0, 1), -2);
    Bounds.due("told are", x.count(1), told);
  }

  @Sentence(of = "Terms",
      says = "A PULL of a DRAWER: if it is open it goes in (0); else it goes out by 1.")
  static void outAndIn() {
    DrawerWall x = Bounds.wallOf(7);
    for (int d = 0; d < 7; d++) {
      int p = Bounds.power(d);
      int rest = Bounds.power(7) - 1 - 2 * p;
      Bounds.due("shut: out, " + d, x.behind(0, d), p);
      Bounds.due("out by 1: out, " + d, x.behind(p, d), 2 * p);
      Bounds.due("open: in, " + d, x.behind(2 * p, d), 0);
      Bounds.due("the others stay, shut, " + d, x.behind(rest, d), rest + p);
      Bounds.due("the others stay, open, " + d, x.behind(rest + 2 * p, d), rest);
    }
  }

  @Sentence(of = "Terms",
      says = "Then its CORDS, as they come: each moves the other DRAWER by as much as it says")
  static void cordsAsTheyCome() {
    DrawerWall x = Bounds.wallOf(4);
    x.cord(0, 1, 0, 2);
    x.cord(0, 1, 0, -1);
    x.cord(1, 2, 0, 2);
    x.cord(0, 3, 0, 1);
    Bounds.due("2, then -1; 2 is not drawn by 1", x.behind(0, 0), 1 + 3 + 27);
    Bounds.due("1 draws 2 alone", x.behind(0, 1), 3 + 18);
    Bounds.due("2 draws none", x.behind(0, 2), 9);
    DrawerWall y = Bounds.wallOf(4);
    y.cord(0, 1, 0, -1);
    y.cord(0, 1, 0, 2);
    Bounds.due("-1, then 2", y.behind(0, 0), 1 + 6);
    DrawerWall z = Bounds.wallOf(3);
    z.cord(0, 1, 1, 1);
    z.cord(0, 1, 1, 1);
    Bounds.due("the second one sees the first one's move", z.behind(0, 0), 1 + 3);
    DrawerWall w = Bounds.wallOf(3);
    w.cord(0, 2, 3, 1);
    w.cord(0, 1, 0, 2);
    w.cord(0, 2, 3, 1);
    Bounds.due("1 is open for the third alone", w.behind(0, 0), 1 + 6 + 9);
  }

  /** Where DRAWER 1 is behind a PULL of 0, for each v and each place of 1 ahead of it. */
  private static void moves(int kind, int pulledAt, String... due) {
    for (int i = 0; i < BY.length; i++) {
      DrawerWall x = Bounds.wallOf(3);
      x.cord(0, 1, kind, BY[i]);
      for (int at = 0; at < 3; at++) {
        int want = (pulledAt + 1) % 3 + 3 * (due[i].charAt(at) - '0');
        Bounds.due("KIND " + kind + " by " + BY[i] + " of one at " + at + ", pulled at " + pulledAt,
            x.behind(pulledAt + 3 * at, 0), want);
      }
    }
  }

  @Sentence(of = "Terms", says = "cut at 0 and 2.")
  static void cutAtTheEnds() {
    moves(0, 0, "000", "001", "122", "222");
    DrawerWall x = Bounds.wallOf(7);
    x.cord(0, 6, 0, 2);
    x.cord(0, 5, 0, -2);
    Bounds.due("6 to 2, 5 stays at 0", x.behind(0, 0), 1 + 2 * 729);
    Bounds.due("6 stays at 2, 5 to 0", x.behind(2 * 729 + 243, 0), 1 + 2 * 729);
  }

  @Sentence(of = "Terms", says = "KINDS, each under the one told, say by how much: 0 CORD: v.")
  static void plainCord() {
    for (int at = 0; at < 3; at++) moves(0, at, "000", "001", "122", "222");
  }

  @Sentence(of = "Terms", says = "1 SLACK (under CORD): v, but only if the other DRAWER is shut.")
  static void slack() {
    for (int at = 0; at < 3; at++) moves(1, at, "012", "012", "112", "212");
  }

  @Sentence(of = "Terms",
      says = "2 CROSSED (under CORD): v, if the pulled one went out; less v, if it went in.")
  static void crossed() {
    moves(2, 0, "000", "001", "122", "222");
    moves(2, 1, "000", "001", "122", "222");
    moves(2, 2, "222", "122", "001", "000");
  }

  @Sentence(of = "Terms",
      says = "3 HEAVY (under CORD): v, but 0, if any beside the other DRAWER is open.")
  static void heavy() {
    moves(3, 0, "000", "001", "122", "222");
    moves(3, 1, "012", "012", "012", "012");
    moves(3, 2, "000", "001", "122", "222");
    DrawerWall x = Bounds.wallOf(6);
    x.cord(0, 3, 3, 1);
    x.cord(0, 5, 3, 2);
    for (int d = 1; d < 6; d++) {
      int part = Bounds.power(d);
      for (int by = 1; by <= 2; by++) {
        int three = by == 2 && (d == 2 || d == 4) ? 0 : 27;
        int five = by == 2 && d == 4 ? 0 : 2 * 243;
        if (d == 3) three = by == 1 ? 27 : 0;
        if (d == 5) five = 2 * 243 - by * 243;
        Bounds.due(d + " out by " + by, x.behind(by * part, 0), 1 + by * part + three + five);
      }
    }
  }

  @Sentence(of = "Terms", says = "4 RATCHET (under CROSSED): as CROSSED, but never in.")
  static void ratchet() {
    moves(4, 0, "012", "012", "122", "222");
    moves(4, 1, "012", "012", "122", "222");
    moves(4, 2, "222", "122", "012", "012");
  }

  @Sentence(of = "Terms", says = "5 FRAYED (under SLACK): as SLACK, but 1 (or -1) at most.")
  static void frayed() {
    for (int at = 0; at < 3; at++) moves(5, at, "012", "012", "112", "112");
  }
}
