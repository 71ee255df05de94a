/** Rounds of calls, drawn by a counting rule, on the program and on the Oracle: answers alike. */
public final class RoundsTest {
  private static long seed;
  private static int wrong = 0;

  private static int draw(int below) {
    seed = seed * 6364136223846793005L + 1442695040888963407L;
    return (int) ((seed >>> 33) % below);
  }

  /** A number of 0 to most, now and then one outside. */
  private static int number(int most) {
    int k = draw(40);
    if (k == 0) return -1;
    if (k == 1) return most + 1;
    if (k == 2) return draw(2) == 0 ? Integer.MAX_VALUE : Integer.MIN_VALUE;
    return draw(most + 1);
  }

  private static void same(int round, int step, String call, long got, long want) {
    if (got == want) return;
    wrong++;
    if (wrong < 30) {
      System.out.println("round " + round + " step " + step + ": " + call + " answered " + got
          + ", the Oracle says " + want);
    }
  }

  private static String item(int n) {
    int d = draw(n);
    int e = (d + 1 + draw(n - 1)) % n;
    String v = (draw(2) == 0 ? "- " : "") + (1 + draw(2));
    return switch (draw(6)) {
      case 0, 1 -> "cord " + d + " " + e + " " + draw(6) + " " + v + ";";
      case 2 -> "catch " + d + ";";
      case 3 -> "good " + d + " " + draw(7) + ";";
      case 4 -> "order " + draw(7) + ";";
      default -> " order" + draw(8) + " ; ";
    };
  }

  private static String text() {
    int n = 2 + draw(draw(8) == 0 ? 7 : 4);
    StringBuilder b = new StringBuilder("drawers " + n + ";");
    int items = draw(14);
    for (int i = 0; i < items; i++) b.append(item(Math.min(n, 7)));
    String odd = " ;-0123456789abcxyzAZ{`/:\u0000\u00ff";
    int faults = draw(3) == 0 ? 1 + draw(2) : 0;
    for (int i = 0; i < faults; i++) {
      int at = draw(b.length());
      int how = draw(3);
      if (how == 0) b.setCharAt(at, odd.charAt(draw(odd.length())));
      if (how == 1) b.deleteCharAt(at);
      if (how == 2) b.insert(at, odd.charAt(draw(odd.length())));
    }
    if (draw(12) == 0) b.setLength(draw(b.length() + 1));
    return b.toString();
  }

  private static void typeText(DrawerWall x, Oracle o, int round, int step) {
    same(round, step, "clear()", x.clear(), o.clear());
    String t = text();
    for (int i = 0; i < t.length(); ) {
      int n = Math.min(1 + draw(8), t.length() - i);
      long v = draw(1 << 30);
      for (int k = 0; k < n; k++) v = v << 8 | t.charAt(i + k);
      same(round, step, "type(" + v + ", " + n + ")", x.type(v, n), o.type(v, n));
      i += n;
    }
    same(round, step, "read() of " + t, x.read(), o.read());
  }

  private static void tell(DrawerWall x, Oracle o, int r, int s) {
    int d = number(o.n - 1);
    int e = number(o.n - 1);
    int g = number(6);
    int bits = number(127);
    int kind = number(5);
    int v = number(4) - 2;
    boolean is = draw(2) == 0;
    switch (draw(9)) {
      case 0, 1, 2 -> same(r, s, "cord", x.cord(d, e, kind, v), o.cord(d, e, kind, v));
      case 3 -> same(r, s, "caught", x.caught(d, is), o.caught(d, is));
      case 4 -> same(r, s, "good", x.good(d, g), o.good(d, g));
      case 5 -> same(r, s, "put", x.put(bits % 2, bits), o.put(bits % 2, bits));
      case 6 -> same(r, s, "order", x.order(g), o.order(g));
      case 7 -> same(r, s, "none", x.none(bits % 9), o.none(bits % 9));
      default -> same(r, s, "put", x.put(d, bits), o.put(d, bits));
    }
  }

  private static void move(DrawerWall x, Oracle o, int r, int s) {
    int d = number(o.n - 1);
    int state = number((int) Math.pow(3, o.n) - 1);
    int i = number(1);
    switch (draw(9)) {
      case 0, 1, 2, 3 -> same(r, s, "pull", x.pull(d), o.pull(d));
      case 4 -> same(r, s, "undo", x.undo(), o.undo());
      case 5 -> same(r, s, "behind", x.behind(state, d), o.behind(state, d));
      case 6 -> same(r, s, "image", x.image(i), o.image(i));
      case 7 -> same(r, s, "from", x.from(i), o.from(i));
      default -> {
        // mostly what is truly seen, so that some sets of cords fit
        int was = o.sights.isEmpty() ? 0 : o.sights.get(o.sights.size() - 1).state();
        boolean isTrue = d >= 0 && d < o.n && draw(4) != 0;
        int now = isTrue ? o.behind(was, d) : state;
        same(r, s, "sight", x.sight(d, now), o.sight(d, now));
      }
    }
  }

  private static void ask(DrawerWall x, Oracle o, int r, int s) {
    int open = number((1 << o.n) - 1);
    int shut = draw(3) == 0 ? number((1 << o.n) - 1) : ~open & draw(1 << o.n);
    int i = number(5) - 1;
    int what = number(2);
    int d = number(o.n - 1);
    int state = number((int) Math.pow(3, o.n) - 1);
    String args = "(" + open + ", " + shut + ", " + i + ")";
    switch (draw(14)) {
      case 0 -> same(r, s, "out", x.out(d), o.out(d));
      case 1, 2 -> same(r, s, "pulls" + args, x.pulls(open, shut, i), o.pulls(open, shut, i, false));
      case 3, 4 -> same(r, s, "safe" + args, x.safe(open, shut, i), o.pulls(open, shut, i, true));
      case 5 -> same(r, s, "reach", x.reach(what), o.reach(what));
      case 6 -> same(r, s, "kept", x.kept(), o.kept());
      case 7 -> same(r, s, "cut", x.cut(), o.cut());
      case 8 -> same(r, s, "tie", x.tie(), o.tie());
      case 9 -> same(r, s, "day", x.day(what), o.day(what));
      case 10 -> same(r, s, "laid", x.laid(), o.laid());
      case 11 -> same(r, s, "danger", x.danger(state), o.danger(state));
      case 12 -> same(r, s, "fits", x.fits(what), o.fits(what));
      default -> same(r, s, "status", x.status(what), o.status(what));
    }
  }

  /** A wall with many cords and catches, where drawers stop one another. */
  private static void makeDense(DrawerWall x, Oracle o, int r) {
    int n = draw(10) == 0 ? 5 + draw(2) : 2 + draw(3);
    same(r, -1, "wall", x.wall(n), o.wall(n));
    for (int c = 2 + draw(9); c > 0; c--) {
      int from = draw(n);
      int to = (from + 1 + draw(n - 1)) % n;
      int kind = draw(6);
      int v = draw(3) == 0 ? 1 + draw(2) : -1 - draw(2);
      same(r, -1, "cord", x.cord(from, to, kind, v), o.cord(from, to, kind, v));
    }
    for (int d = 0; d < n; d++) {
      int g = draw(n);
      if (draw(3) != 0) same(r, -1, "caught", x.caught(d, true), o.caught(d, true));
      if (draw(2) == 0) same(r, -1, "good", x.good(d, g), o.good(d, g));
    }
    for (int i = draw(7); i > 0; i--) {
      int g = draw(n);
      same(r, -1, "order", x.order(g), o.order(g));
    }
    int poison = draw(128);
    int food = draw(128);
    same(r, -1, "put", x.put(0, poison), o.put(0, poison));
    same(r, -1, "put", x.put(1, food), o.put(1, food));
  }

  private static void round(int r, int steps) {
    seed = 77L * r + 5;
    DrawerWall x = new DrawerWall();
    Oracle o = new Oracle();
    boolean isDense = r % 3 != 0;
    for (int s = 0; s < steps; s++) {
      if (isDense && s % 30 == 0) makeDense(x, o, r);
      int k = isDense ? 2 + draw(18) : draw(20);
      if (k == 0) {
        typeText(x, o, r, s);
      } else if (k == 1) {
        int n = number(draw(6) == 0 ? 7 : 4);
        if (draw(3) == 0) same(r, s, "wall", x.wall(n), o.wall(n));
      } else if (k < 7) {
        tell(x, o, r, s);
      } else if (k < 13) {
        move(x, o, r, s);
      } else {
        ask(x, o, r, s);
      }
      same(r, s, "digest", x.digest(), o.digest());
      int what = number(6);
      same(r, s, "count", x.count(what), o.count(what));
    }
    for (int w = 0; w < 3; w++) same(r, steps, "status", x.status(w), o.status(w));
  }

  public static void main(String[] args) {
    int rounds = args.length > 0 ? Integer.parseInt(args[0]) : 300;
    for (int r = 0; r < rounds; r++) round(r, 120);
    System.out.println(wrong == 0 ? "RoundsTest: all as due" : "RoundsTest: " + wrong + " wrong");
    if (wrong != 0) System.exit(1);
  }
}
