import java.util.ArrayList;
import java.util.Arrays;
import java.util.HashSet;
import java.util.List;
import java.util.Set;
import java.util.TreeSet;
import java.util.regex.Matcher;
import java.util.regex.Pattern;

/** The document once more, by other ways than the program's: slow, plain, for RoundsTest alone. */
final class Oracle {
  static final int NONE = -1, BAD = -2, NO = -3, FULL = -4;

  record Cord(int from, int to, int kind, int v) { }

  record Sight(int drawer, int state) { }

  int n;
  int[] out;
  boolean[] caught;
  int[] goods;
  List<Cord> cords = new ArrayList<>();
  List<Integer> orders = new ArrayList<>();
  List<Sight> sights = new ArrayList<>();
  int[] sets;
  List<int[]> past = new ArrayList<>();
  String text = "";
  int[] status = new int[3];
  Oracle[] images = new Oracle[2];

  Oracle() {
    fresh(5);
  }

  private void fresh(int many) {
    n = many;
    out = new int[n];
    caught = new boolean[n];
    goods = new int[n];
    for (int d = 0; d < n; d++) goods[d] = d;
    cords = new ArrayList<>();
    orders = new ArrayList<>();
    sights = new ArrayList<>();
    sets = new int[2];
    past = new ArrayList<>();
  }

  private void takeOver(Oracle o) {
    n = o.n;
    out = o.out.clone();
    caught = o.caught.clone();
    goods = o.goods.clone();
    cords = new ArrayList<>(o.cords);
    orders = new ArrayList<>(o.orders);
    sights = new ArrayList<>(o.sights);
    sets = o.sets.clone();
    past = new ArrayList<>(o.past);
  }

  private int refuse(int why) {
    status[-why - 2]++;
    return why;
  }

  private boolean isDrawer(int d) {
    return 0 <= d && d < n;
  }

  private int states() {
    return (int) Math.round(Math.pow(3, n));
  }

  private boolean isState(int s) {
    return 0 <= s && s < states();
  }

  int[] digits(int state) {
    int[] r = new int[n];
    for (int d = 0; d < n; d++, state /= 3) r[d] = state % 3;
    return r;
  }

  int number(int[] digits) {
    int s = 0;
    for (int d = n - 1; d >= 0; d--) s = 3 * s + digits[d];
    return s;
  }

  private boolean openBeside(int[] o, int d) {
    return d > 0 && o[d - 1] == 2 || d + 1 < n && o[d + 1] == 2;
  }

  private int[] pulled(int[] before, int d, List<Cord> by) {
    int[] o = before.clone();
    if (caught[d] && openBeside(o, d)) return o;
    boolean in = o[d] == 2;
    o[d] = in ? 0 : o[d] + 1;
    for (Cord c : by) {
      if (c.from != d) continue;
      int m = c.v;
      if (c.kind == 1 || c.kind == 5) m = o[c.to] == 0 ? m : 0;
      if (c.kind == 5 && m > 1) m = 1;
      if (c.kind == 5 && m < -1) m = -1;
      if (c.kind == 2 || c.kind == 4) m = in ? -m : m;
      if (c.kind == 4 && m < 0) m = 0;
      if (c.kind == 3 && openBeside(o, c.to)) m = 0;
      o[c.to] = Math.min(2, Math.max(0, o[c.to] + m));
    }
    return o;
  }

  private int[][] table(List<Cord> by) {
    int[][] t = new int[states()][n];
    for (int s = 0; s < t.length; s++) {
      for (int d = 0; d < n; d++) t[s][d] = number(pulled(digits(s), d, by));
    }
    return t;
  }

  private Set<Integer> reached(int start, int[][] t) {
    Set<Integer> seen = new TreeSet<>();
    Set<Integer> edge = new HashSet<>(List.of(start));
    while (!edge.isEmpty()) {
      seen.addAll(edge);
      Set<Integer> more = new HashSet<>();
      for (int s : edge) for (int x : t[s]) if (!seen.contains(x)) more.add(x);
      edge = more;
    }
    return seen;
  }

  private boolean meets(int state, int open, int shut) {
    int[] o = digits(state);
    for (int d = 0; d < n; d++) {
      if ((open >> d & 1) == 1 && o[d] != 2) return false;
      if ((shut >> d & 1) == 1 && o[d] != 0) return false;
    }
    return true;
  }

  /** The first of the shortest rows, found from the goals backward; null if there is none. */
  private List<Integer> row(int start, int open, int shut, boolean safe, int[][] t) {
    int[] left = new int[states()];
    Arrays.fill(left, -1);
    boolean[] barred = new boolean[states()];
    for (int s = 0; s < left.length; s++) {
      barred[s] = safe && isDanger(s);
      if (meets(s, open, shut) && !barred[s]) left[s] = 0;
    }
    boolean more = true;
    for (int k = 0; more; k++) {
      more = false;
      for (int s = 0; s < left.length; s++) {
        if (left[s] >= 0 || barred[s]) continue;
        for (int x : t[s]) {
          if (left[x] == k) {
            left[s] = k + 1;
            more = true;
            break;
          }
        }
      }
    }
    if (left[start] < 0) return null;
    List<Integer> row = new ArrayList<>();
    int s = start;
    while (left[s] > 0) {
      int d = 0;
      while (left[t[s][d]] != left[s] - 1) d++;
      row.add(d);
      s = t[s][d];
    }
    return row;
  }

  private boolean isDanger(int state) {
    int[] o = digits(state);
    for (int d = 0; d < n; d++) {
      for (int e = 0; e < n; e++) {
        boolean poison = (sets[0] >> goods[d] & 1) == 1 && o[d] == 2;
        boolean food = (sets[1] >> goods[e] & 1) == 1 && o[e] > 0;
        if (Math.abs(d - e) == 1 && poison && food) return true;
      }
    }
    return false;
  }

  int wall(int many) {
    if (many < 2 || many > 7) return refuse(BAD);
    int was = n;
    fresh(many);
    return was;
  }

  int cord(int from, int to, int kind, int v) {
    boolean good = isDrawer(from) && isDrawer(to) && from != to;
    if (!good || kind < 0 || kind > 5 || v == 0 || v < -2 || v > 2) return refuse(BAD);
    if (cords.size() == 10) return refuse(FULL);
    cords.add(new Cord(from, to, kind, v));
    return cords.size() - 1;
  }

  int caught(int d, boolean is) {
    if (!isDrawer(d)) return refuse(BAD);
    if (caught[d] == is) return refuse(NO);
    caught[d] = is;
    return 1;
  }

  int good(int d, int g) {
    if (!isDrawer(d) || g < 0 || g > 6) return refuse(BAD);
    int was = goods[d];
    goods[d] = g;
    return was;
  }

  int put(int what, int bits) {
    if (what != 0 && what != 1 || bits < 0 || bits > 127) return refuse(BAD);
    int was = sets[what];
    sets[what] = bits;
    return was;
  }

  int order(int g) {
    if (g < 0 || g > 6) return refuse(BAD);
    if (orders.size() == 6) return refuse(FULL);
    orders.add(g);
    return orders.size() - 1;
  }

  int type(long v, int many) {
    if (many < 1 || many > 8) return refuse(BAD);
    if (text.length() + many > 200) return refuse(FULL);
    StringBuilder b = new StringBuilder(text);
    for (int i = many - 1; i >= 0; i--) b.append((char) (v >>> 8 * i & 255));
    text = b.toString();
    return text.length();
  }

  int clear() {
    int was = text.length();
    text = "";
    return was;
  }

  private static final Pattern TOKEN = Pattern.compile(" *([a-z]+|[0-9]+|-|;|[^ ])");

  /** The fewest tokens that could not go on to a whole text: by the grammar as a pattern. */
  int fault() {
    List<String> tokens = new ArrayList<>();
    List<Integer> places = new ArrayList<>();
    Matcher m = Pattern.compile(TOKEN.pattern(), Pattern.DOTALL).matcher(text);
    while (m.find()) {
      tokens.add(m.group(1));
      places.add(m.start(1));
    }
    String whole = "drawers N ; (cord N N N (- )?N ; |catch N ; |good N N ; |order N ; )*";
    Pattern p = Pattern.compile(whole);
    StringBuilder so = new StringBuilder();
    for (int i = 0; i < tokens.size(); i++) {
      String t = tokens.get(i);
      so.append(t.matches("[0-9]") ? "N" : t.equals("N") ? "?" : t).append(' ');
      Matcher k = p.matcher(so);
      if (!k.matches() && !k.hitEnd()) return places.get(i);
    }
    return p.matcher(so).matches() ? NONE : text.length();
  }

  int read() {
    int fault = fault();
    if (fault != NONE) return -10 - fault;
    Oracle o = new Oracle();
    String[] items = text.trim().split(";");
    int many = 0;
    for (String item : items) {
      List<String> t = new ArrayList<>();
      Matcher m = Pattern.compile(TOKEN.pattern(), Pattern.DOTALL).matcher(item);
      while (m.find()) t.add(m.group(1));
      if (t.isEmpty()) continue;
      int[] a = new int[5];
      int k = 0;
      int sign = 1;
      for (String x : t.subList(1, t.size())) {
        if (x.equals("-")) sign = -1;
        else a[k++] = Integer.parseInt(x);
      }
      int answer = switch (t.get(0)) {
        case "drawers" -> o.wall(a[0]);
        case "cord" -> o.cord(a[0], a[1], a[2], sign * a[3]);
        case "catch" -> o.caught(a[0], true);
        case "good" -> o.good(a[0], a[1]);
        default -> o.order(a[0]);
      };
      if (answer < NONE) return -1000 - many;
      many++;
    }
    takeOver(o);
    return many;
  }

  int pull(int d) {
    if (!isDrawer(d)) return refuse(BAD);
    past.add(out);
    if (past.size() > 20) past.remove(0);
    out = pulled(out, d, cords);
    return number(out);
  }

  int undo() {
    if (past.isEmpty()) return refuse(NO);
    out = past.remove(past.size() - 1);
    return number(out);
  }

  int behind(int state, int d) {
    if (!isState(state) || !isDrawer(d)) return refuse(BAD);
    return number(pulled(digits(state), d, cords));
  }

  int out(int d) {
    return isDrawer(d) ? out[d] : refuse(BAD);
  }

  int pulls(int open, int shut, int i, boolean safe) {
    int most = (1 << n) - 1;
    if (open < 0 || open > most || shut < 0 || shut > most || (open & shut) != 0 || i < -1) {
      refuse(BAD);
      return -10;
    }
    List<Integer> row = row(number(out), open, shut, safe, table(cords));
    if (row == null) return NONE;
    if (i == NONE) return row.size();
    return i < row.size() ? row.get(i) : -5;
  }

  int reach(int what) {
    if (what < 0 || what > 2) return refuse(BAD);
    int[][] t = table(cords);
    Set<Integer> all = reached(number(out), t);
    if (what == 0) return all.size();
    List<Integer> jams = new ArrayList<>();
    for (int s : all) if (Arrays.stream(t[s]).allMatch(x -> x == s)) jams.add(s);
    if (what == 1) return jams.size();
    return jams.isEmpty() ? NONE : jams.get(0);
  }

  int kept() {
    Set<Integer> all = reached(number(out), table(cords));
    for (int w = 1; w < states(); w++) {
      int[] f = digits(w);
      int due = -1;
      boolean same = true;
      for (int s : all) {
        int[] o = digits(s);
        int sum = 0;
        for (int d = 0; d < n; d++) sum += f[d] * o[d];
        if (due < 0) due = sum % 3;
        same = due == sum % 3;
        if (!same) break;
      }
      if (same) return w;
    }
    return NONE;
  }

  int cut() {
    int best = NONE;
    int most = reached(number(out), table(cords)).size();
    for (int c = 0; c < cords.size(); c++) {
      List<Cord> less = new ArrayList<>(cords);
      less.remove(c);
      int many = reached(number(out), table(less)).size();
      if (many > most) {
        most = many;
        best = c;
      }
    }
    return best;
  }

  private int openable(List<Cord> by) {
    Set<Integer> open = new HashSet<>();
    for (int s : reached(number(out), table(by))) {
      int[] o = digits(s);
      for (int d = 0; d < n; d++) if (o[d] == 2) open.add(d);
    }
    return open.size();
  }

  int tie() {
    if (cords.size() == 10) return NONE;
    int best = NONE;
    int most = openable(cords);
    for (int k = 0; k < 2 * n * n; k++) {
      int from = k / 2 / n;
      int to = k / 2 % n;
      if (from == to) continue;
      List<Cord> more = new ArrayList<>(cords);
      more.add(new Cord(from, to, 0, k % 2 == 0 ? 1 : -1));
      int many = openable(more);
      if (many > most) {
        most = many;
        best = 100 * from + 10 * to + (k % 2 == 0 ? 1 : 0);
      }
    }
    return best;
  }

  private int[] dayOf(int[] laid, int[][] t) {
    int s = 0;
    int sum = 0;
    int served = 0;
    for (int g : orders) {
      List<Integer> best = null;
      for (int d = 0; d < n; d++) {
        if (laid[d] != g) continue;
        List<Integer> row = row(s, 1 << d, 0, false, t);
        if (row != null && (best == null || row.size() < best.size())) best = row;
      }
      if (best == null) break;
      for (int d : best) s = t[s][d];
      sum += best.size();
      served++;
    }
    return new int[] {sum, served};
  }

  int day(int what) {
    if (what < 0 || what > 1) return refuse(BAD);
    return dayOf(goods, table(cords))[what];
  }

  int laid() {
    int[][] t = table(cords);
    int[] best = dayOf(goods, t);
    int pair = NONE;
    for (int a = 0; a < n; a++) {
      for (int b = a + 1; b < n; b++) {
        int[] other = goods.clone();
        other[a] = goods[b];
        other[b] = goods[a];
        int[] day = dayOf(other, t);
        if (day[1] > best[1] || day[1] == best[1] && day[0] < best[0]) {
          best = day;
          pair = 10 * a + b;
        }
      }
    }
    return pair;
  }

  int danger(int state) {
    if (!isState(state)) return refuse(BAD);
    return isDanger(state) ? 1 : 0;
  }

  int sight(int d, int state) {
    if (!isDrawer(d) || !isState(state)) return refuse(BAD);
    if (sights.size() == 8) return refuse(FULL);
    sights.add(new Sight(d, state));
    return sights.size() - 1;
  }

  int none(int what) {
    if (what != 0 && what != 1) return refuse(BAD);
    List<?> these = what == 0 ? orders : sights;
    int had = these.size();
    these.clear();
    return had;
  }

  int fits(int what) {
    if (what != 0 && what != 1) return refuse(BAD);
    int many = 0;
    int least = NONE;
    for (int set = (1 << cords.size()) - 1; set >= 0; set--) {
      List<Cord> some = new ArrayList<>();
      for (int c = 0; c < cords.size(); c++) if ((set >> c & 1) == 1) some.add(cords.get(c));
      int[] o = new int[n];
      boolean fits = true;
      for (Sight s : sights) {
        o = pulled(o, s.drawer, some);
        fits &= number(o) == s.state;
        o = digits(s.state);
      }
      if (!fits) continue;
      many++;
      least = set;
    }
    if (what == 0) return many;
    return many == 0 ? refuse(NO) : least;
  }

  int image(int i) {
    if (i != 0 && i != 1) return refuse(BAD);
    images[i] = new Oracle();
    images[i].takeOver(this);
    return 1;
  }

  int from(int i) {
    if (i != 0 && i != 1) return refuse(BAD);
    if (images[i] == null) return refuse(NO);
    takeOver(images[i]);
    return 1;
  }

  int status(int what) {
    if (what >= 0 && what <= 2) return status[what];
    refuse(BAD);
    return -1;
  }

  private List<Integer> counts() {
    return List.of(n, cords.size(), orders.size(), sights.size(), text.length(), past.size(),
        number(out));
  }

  int count(int what) {
    return what >= 0 && what <= 6 ? counts().get(what) : refuse(BAD);
  }

  long digest() {
    List<Integer> all = new ArrayList<>(counts());
    for (int d = 0; d < n; d++) all.addAll(List.of(caught[d] ? 1 : 0, goods[d]));
    for (Cord c : cords) all.addAll(List.of(c.from, c.to, c.kind, c.v));
    all.addAll(List.of(sets[0], sets[1]));
    all.addAll(orders);
    for (Sight s : sights) all.addAll(List.of(s.drawer, s.state));
    long h = 761;
    for (int v : all) h = 31 * h + v;
    return h;
  }
}
