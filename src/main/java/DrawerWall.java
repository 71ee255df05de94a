/**
 * An apothecary's wall of drawers on cords, as ../shared/DOC.md tells it. It runs where nothing may
 * be thrown: a call that can not be answered is refused by a number.
 */
public final class DrawerWall {
  public static final int NONE = -1, BAD = -2, NO = -3, FULL = -4;

  private static final int LEAST_DRAWERS = 2, MOST_DRAWERS = 7, FIRST_DRAWERS = 5;
  private static final int SHUT = 0, OPEN = 2, PARTS = 3;
  private static final int MOST_STATES = 2187;
  private static final int KINDS = 6, SLACK = 1, CROSSED = 2, HEAVY = 3, RATCHET = 4, FRAYED = 5;
  private static final int MOST_CORDS = 10, ALL_CORDS = -1;
  private static final int GOODS = 7, GOODS_SETS = 128;
  private static final int MOST_ORDERS = 6, MOST_SIGHTS = 8, MOST_UNDONE = 20, TEXT_BYTES = 200;
  private static final int IMAGES = 2, COUNTS = 7;
  private static final int BAD_SETS = -10, NOT_SO_MANY = -5;
  private static final int AT_FAULT = -10, AT_ITEM = -1000;

  private final Wall wall = new Wall();
  private final Wall draft = new Wall();
  private final Wall imageZero = new Wall();
  private final Wall imageOne = new Wall();
  private boolean isZeroKept = false;
  private boolean isOneKept = false;
  private final Row text = new Row(TEXT_BYTES);
  private final Reader reader = new Reader();
  private final Walk walk = new Walk();
  private final Day today = new Day();
  private final Day other = new Day();
  private final Row witnesses = new Row(MOST_DRAWERS);
  private int refusedBad = 0;
  private int refusedNo = 0;
  private int refusedFull = 0;

  public DrawerWall() {
  }

  // ---- a wall

  public int wall(int n) {
    walk.forget();
    return counted(wall.tellDrawers(n));
  }

  public int cord(int from, int to, int kind, int v) {
    walk.forget();
    return counted(wall.tellCord(from, to, kind, v));
  }

  public int caught(int drawer, boolean is) {
    walk.forget();
    return counted(wall.tellCatch(drawer, is));
  }

  public int good(int drawer, int g) {
    return counted(wall.tellGoods(drawer, g));
  }

  public int put(int what, int bits) {
    if (what < 0 || what > 1 || bits < 0 || bits >= GOODS_SETS) return counted(BAD);
    int old = what == 0 ? wall.poison : wall.food;
    if (what == 0) wall.poison = bits;
    else wall.food = bits;
    return old;
  }

  public int order(int g) {
    return counted(wall.tellOrder(g));
  }

  public int type(long v, int n) {
    if (n < 1 || n > 8) return counted(BAD);
    if (text.size() + n > TEXT_BYTES) return counted(FULL);
    for (int i = n - 1; i >= 0; i--) text.add((int) (v >>> (8 * i)) & 255);
    return text.size();
  }

  public int clear() {
    int had = text.size();
    text.drop();
    return had;
  }

  public int read() {
    int fault = reader.faultIn(text);
    if (fault != NONE) return AT_FAULT - fault;
    int refused = reader.refusedBy(draft);
    if (refused != NONE) return AT_ITEM - refused;
    wall.copyFrom(draft);
    walk.forget();
    return reader.items();
  }

  // ---- pulls

  public int pull(int drawer) {
    if (!wall.hasDrawer(drawer)) return counted(BAD);
    wall.remember();
    wall.now = wall.after(wall.now, drawer, ALL_CORDS);
    return wall.now;
  }

  public int undo() {
    if (wall.past.size() == 0) return counted(NO);
    wall.now = wall.past.takeLast();
    return wall.now;
  }

  public int behind(int state, int drawer) {
    if (!wall.hasState(state) || !wall.hasDrawer(drawer)) return counted(BAD);
    return wall.after(state, drawer, ALL_CORDS);
  }

  public int out(int drawer) {
    if (!wall.hasDrawer(drawer)) return counted(BAD);
    return outIn(wall.now, drawer);
  }

  public int pulls(int open, int shut, int i) {
    walk.learn(wall);
    return pullOf(open, shut, i, false);
  }

  public int safe(int open, int shut, int i) {
    walk.learn(wall);
    return pullOf(open, shut, i, true);
  }

  public int reach(int what) {
    if (what < 0 || what > 2) return counted(BAD);
    walk.learn(wall);
    int many = walkFromNow();
    if (what == 0) return many;
    return what == 1 ? walk.jams() : walk.leastJam();
  }

  public int kept() {
    walk.learn(wall);
    walkFromNow();
    witnesses.drop();
    for (int w = 1; w < wall.states(); w++) {
      if (isSumKept(w)) return w;
    }
    return NONE;
  }

  public int cut() {
    walk.learn(wall);
    int most = walkFromNow();
    int best = NONE;
    for (int c = 0; c < wall.cordFrom.size(); c++) {
      int from = wall.cordFrom.at(c);
      walk.learnDrawer(wall, from, ~(1 << c));
      int many = walkFromNow();
      walk.learnDrawer(wall, from, ALL_CORDS);
      if (many > most) {
        most = many;
        best = c;
      }
    }
    return best;
  }

  public int tie() {
    if (wall.cordFrom.isFull()) return NONE;
    walk.learn(wall);
    int most = openableWith(NONE, NONE, 0);
    int best = NONE;
    // once all can be opened, no later cord can be better
    for (int from = 0; from < wall.drawers && most < wall.drawers; from++) {
      for (int to = 0; to < wall.drawers; to++) {
        for (int v = 1; v >= -1 && from != to; v -= 2) {
          int many = openableWith(from, to, v);
          if (many > most) {
            most = many;
            best = 100 * from + 10 * to + Math.max(0, v);
          }
        }
      }
    }
    walk.tied(NONE, NONE, 0);
    return best;
  }

  // ---- goods, sights

  public int day(int what) {
    if (what < 0 || what > 1) return counted(BAD);
    walk.learn(wall);
    today.run(wall, walk, 0, 0);
    return what == 0 ? today.pulls : today.served;
  }

  public int laid() {
    walk.learn(wall);
    today.run(wall, walk, 0, 0);
    int best = NONE;
    for (int a = 0; a < wall.drawers; a++) {
      for (int b = a + 1; b < wall.drawers; b++) {
        if (wall.goods.at(a) == wall.goods.at(b)) continue;
        other.run(wall, walk, a, b);
        if (other.isBetterThan(today)) {
          today.copyFrom(other);
          best = 10 * a + b;
        }
      }
    }
    return best;
  }

  public int danger(int state) {
    if (!wall.hasState(state)) return counted(BAD);
    return wall.isDanger(state) ? 1 : 0;
  }

  public int sight(int drawer, int state) {
    if (!wall.hasDrawer(drawer) || !wall.hasState(state)) return counted(BAD);
    if (wall.sightDrawers.isFull()) return counted(FULL);
    wall.sightDrawers.add(drawer);
    wall.sightStates.add(state);
    return wall.sightDrawers.size() - 1;
  }

  public int none(int what) {
    if (what < 0 || what > 1) return counted(BAD);
    int had = what == 0 ? wall.orders.size() : wall.sightDrawers.size();
    if (what == 0) {
      wall.orders.drop();
    } else {
      wall.sightDrawers.drop();
      wall.sightStates.drop();
    }
    return had;
  }

  public int fits(int what) {
    if (what < 0 || what > 1) return counted(BAD);
    int sets = 1 << wall.cordFrom.size();
    int many = 0;
    int least = NONE;
    for (int set = 0; set < sets; set++) {
      if (!wall.areSightsSo(set)) continue;
      if (many == 0) least = set;
      many++;
    }
    if (what == 0) return many;
    return many == 0 ? counted(NO) : least;
  }

  // ---- what there is

  public int image(int i) {
    if (i < 0 || i >= IMAGES) return counted(BAD);
    imageAt(i).copyFrom(wall);
    if (i == 0) isZeroKept = true;
    else isOneKept = true;
    return 1;
  }

  public int from(int i) {
    if (i < 0 || i >= IMAGES) return counted(BAD);
    boolean isKept = i == 0 ? isZeroKept : isOneKept;
    if (!isKept) return counted(NO);
    wall.copyFrom(imageAt(i));
    walk.forget();
    return 1;
  }

  public int status(int what) {
    if (what == 0) return refusedBad;
    if (what == 1) return refusedNo;
    if (what == 2) return refusedFull;
    counted(BAD);
    return NONE;
  }

  public int count(int what) {
    if (what < 0 || what >= COUNTS) return counted(BAD);
    return countOf(what);
  }

  public long digest() {
    long h = 761;
    for (int what = 0; what < COUNTS; what++) h = 31 * h + countOf(what);
    for (int d = 0; d < wall.drawers; d++) {
      h = 31 * h + (wall.hasCatch(d) ? 1 : 0);
      h = 31 * h + wall.goods.at(d);
    }
    for (int c = 0; c < wall.cordFrom.size(); c++) {
      h = 31 * h + wall.cordFrom.at(c);
      h = 31 * h + wall.cordTo.at(c);
      h = 31 * h + wall.cordKind.at(c);
      h = 31 * h + wall.cordBy.at(c);
    }
    h = 31 * h + wall.poison;
    h = 31 * h + wall.food;
    for (int o = 0; o < wall.orders.size(); o++) h = 31 * h + wall.orders.at(o);
    for (int s = 0; s < wall.sightDrawers.size(); s++) {
      h = 31 * h + wall.sightDrawers.at(s);
      h = 31 * h + wall.sightStates.at(s);
    }
    return h;
  }

  // ---- what the calls share

  /** Every answer that may be a refusal goes through here, so that STATUS misses none. */
  private int counted(int answer) {
    if (answer == BAD) refusedBad++;
    if (answer == NO) refusedNo++;
    if (answer == FULL) refusedFull++;
    return answer;
  }

  private int countOf(int what) {
    switch (what) {
      case 0: return wall.drawers;
      case 1: return wall.cordFrom.size();
      case 2: return wall.orders.size();
      case 3: return wall.sightDrawers.size();
      case 4: return text.size();
      case 5: return wall.past.size();
      default: return wall.now;
    }
  }

  private Wall imageAt(int i) {
    return i == 0 ? imageZero : imageOne;
  }

  private int walkFromNow() {
    walk.begin();
    walk.spread(wall.now);
    return walk.found.size();
  }

  /** The wall as it is (from NONE) is measured in the same way as with a CORD, to compare them. */
  private int openableWith(int from, int to, int v) {
    walk.tied(from, to, v);
    walkFromNow();
    return Integer.bitCount(walk.everOpen());
  }

  private int pullOf(int open, int shut, int i, boolean isSafe) {
    if (!wall.hasSet(open) || !wall.hasSet(shut) || (open & shut) != 0 || i < NONE) {
      counted(BAD);
      return BAD_SETS;
    }
    walk.begin();
    if (isSafe) walk.barDangers(wall);
    int goal = walk.firstWith(wall.now, open, shut);
    if (goal == NONE) return NONE;
    int many = walk.far.at(goal);
    if (i == NONE) return many;
    return i < many ? walk.pulledAt(goal, i) : NOT_SO_MANY;
  }

  private boolean isSumKept(int w) {
    int due = sumOf(w, wall.now);
    // a STATE that once told against some numbers tells against most others at once
    for (int i = 0; i < witnesses.size(); i++) {
      if (sumOf(w, witnesses.at(i)) != due) return false;
    }
    for (int i = 0; i < walk.found.size(); i++) {
      int state = walk.found.at(i);
      if (sumOf(w, state) != due) {
        witnesses.add(state);
        return false;
      }
    }
    return true;
  }

  private static int sumOf(int w, int state) {
    int sum = 0;
    int weights = w;
    int outs = state;
    for (int d = 0; d < MOST_DRAWERS; d++) {
      sum += (weights % PARTS) * (outs % PARTS);
      weights /= PARTS;
      outs /= PARTS;
    }
    return sum % PARTS;
  }

  private static int power(int drawer) {
    int p = 1;
    for (int d = 0; d < drawer && d < MOST_DRAWERS; d++) p *= PARTS;
    return p;
  }

  private static int outIn(int state, int drawer) {
    int rest = state;
    for (int d = 0; d < drawer && d < MOST_DRAWERS; d++) rest /= PARTS;
    return rest % PARTS;
  }

  private static int moved(int state, int drawer, int by) {
    int was = outIn(state, drawer);
    int is = Math.max(SHUT, Math.min(OPEN, was + by));
    return state + (is - was) * power(drawer);
  }

  // a set of DRAWERS is a number with a bit for each, as callers tell it: no object is made for it

  private static int drawersOutBy(int state, int by) {
    int set = 0;
    int rest = state;
    for (int d = 0; d < MOST_DRAWERS; d++) {
      if (rest % PARTS == by) set |= 1 << d;
      rest /= PARTS;
    }
    return set;
  }

  private static int drawersBeside(int set) {
    return set << 1 | set >> 1;
  }

  private static boolean isOpenBeside(int state, int drawer) {
    return (drawersBeside(1 << drawer) & drawersOutBy(state, OPEN)) != 0;
  }

  /**
   * An array behind tests of every index, so that no caller can make the machine throw: outside it
   * there is 0 to read, and what is written is lost. Its room is made once, for all calls share it.
   */
  private static final class Row {
    private final int[] cells;
    private int size = 0;

    Row(int room) {
      cells = new int[Math.max(0, room)];
    }

    int size() {
      return size;
    }

    boolean isFull() {
      return size >= cells.length;
    }

    boolean holds(int i) {
      return i >= 0 && i < size && i < cells.length;
    }

    int at(int i) {
      return i >= 0 && i < size && i < cells.length ? cells[i] : 0;
    }

    void set(int i, int v) {
      if (i >= 0 && i < size && i < cells.length) cells[i] = v;
    }

    void add(int v) {
      if (size < 0 || size >= cells.length) return;
      cells[size] = v;
      size++;
    }

    int takeLast() {
      int last = at(size - 1);
      size = Math.max(0, size - 1);
      return last;
    }

    void dropFirst() {
      for (int i = 1; i < size; i++) set(i - 1, at(i));
      size = Math.max(0, size - 1);
    }

    void drop() {
      size = 0;
    }

    void fill(int many, int v) {
      size = Math.max(0, Math.min(many, cells.length));
      for (int i = 0; i < size && i < cells.length; i++) cells[i] = v;
    }

    void copyFrom(Row that) {
      size = 0;
      for (int i = 0; i < that.size; i++) add(that.at(i));
    }
  }

  /** All that an IMAGE keeps stands together here, so that keeping one can forget nothing. */
  private static final class Wall {
    private int drawers = 0;
    private int now = 0;
    private int catches = 0;
    private int poison = 0;
    private int food = 0;
    private final Row goods = new Row(MOST_DRAWERS);
    private final Row cordFrom = new Row(MOST_CORDS);
    private final Row cordTo = new Row(MOST_CORDS);
    private final Row cordKind = new Row(MOST_CORDS);
    private final Row cordBy = new Row(MOST_CORDS);
    private final Row orders = new Row(MOST_ORDERS);
    private final Row sightDrawers = new Row(MOST_SIGHTS);
    private final Row sightStates = new Row(MOST_SIGHTS);
    private final Row past = new Row(MOST_UNDONE);

    Wall() {
      tellDrawers(FIRST_DRAWERS);
    }

    int tellDrawers(int n) {
      if (n < LEAST_DRAWERS || n > MOST_DRAWERS) return BAD;
      int was = drawers;
      drawers = n;
      now = 0;
      catches = 0;
      poison = 0;
      food = 0;
      goods.drop();
      for (int d = 0; d < n; d++) goods.add(d);
      cordFrom.drop();
      cordTo.drop();
      cordKind.drop();
      cordBy.drop();
      orders.drop();
      sightDrawers.drop();
      sightStates.drop();
      past.drop();
      return was;
    }

    int tellCord(int from, int to, int kind, int v) {
      if (!hasDrawer(from) || !hasDrawer(to) || from == to) return BAD;
      if (kind < 0 || kind >= KINDS || v < -OPEN || v > OPEN || v == 0) return BAD;
      if (cordFrom.isFull()) return FULL;
      cordFrom.add(from);
      cordTo.add(to);
      cordKind.add(kind);
      cordBy.add(v);
      return cordFrom.size() - 1;
    }

    int tellCatch(int drawer, boolean is) {
      if (!hasDrawer(drawer)) return BAD;
      if (hasCatch(drawer) == is) return NO;
      catches ^= 1 << drawer;
      return 1;
    }

    int tellGoods(int drawer, int g) {
      if (!hasDrawer(drawer) || g < 0 || g >= GOODS) return BAD;
      int was = goods.at(drawer);
      goods.set(drawer, g);
      return was;
    }

    int tellOrder(int g) {
      if (g < 0 || g >= GOODS) return BAD;
      if (orders.isFull()) return FULL;
      orders.add(g);
      return orders.size() - 1;
    }

    void copyFrom(Wall that) {
      drawers = that.drawers;
      now = that.now;
      catches = that.catches;
      poison = that.poison;
      food = that.food;
      goods.copyFrom(that.goods);
      cordFrom.copyFrom(that.cordFrom);
      cordTo.copyFrom(that.cordTo);
      cordKind.copyFrom(that.cordKind);
      cordBy.copyFrom(that.cordBy);
      orders.copyFrom(that.orders);
      sightDrawers.copyFrom(that.sightDrawers);
      sightStates.copyFrom(that.sightStates);
      past.copyFrom(that.past);
    }

    int states() {
      return power(drawers);
    }

    boolean hasDrawer(int drawer) {
      return drawer >= 0 && drawer < drawers;
    }

    boolean hasState(int state) {
      return state >= 0 && state < power(drawers);
    }

    boolean hasSet(int set) {
      return set >= 0 && set < 1 << drawers;
    }

    boolean hasCatch(int drawer) {
      return (catches >> drawer & 1) == 1;
    }

    /** Only so many PULLS may be undone: the oldest gives way. */
    void remember() {
      if (past.isFull()) past.dropFirst();
      past.add(now);
    }

    /** CUT and FITS ask what a PULL does with some CORDS alone: hence their bits. */
    int after(int state, int drawer, int cordSet) {
      if (hasCatch(drawer) && isOpenBeside(state, drawer)) return state;
      boolean goesOut = outIn(state, drawer) != OPEN;
      int then = moved(state, drawer, goesOut ? 1 : -OPEN);
      for (int c = 0; c < cordFrom.size(); c++) {
        boolean isDrawn = (cordSet >> c & 1) == 1 && cordFrom.at(c) == drawer;
        if (isDrawn) then = moved(then, cordTo.at(c), amountOf(c, then, goesOut));
      }
      return then;
    }

    private int amountOf(int c, int state, boolean goesOut) {
      int v = cordBy.at(c);
      int to = cordTo.at(c);
      int crossed = goesOut ? v : -v;
      int slack = outIn(state, to) == SHUT ? v : 0;
      switch (cordKind.at(c)) {
        case SLACK: return slack;
        case CROSSED: return crossed;
        case HEAVY: return isOpenBeside(state, to) ? 0 : v;
        case RATCHET: return Math.max(0, crossed);
        case FRAYED: return Math.max(-1, Math.min(1, slack));
        default: return v;
      }
    }

    int drawersHolding(int goodsSet) {
      int set = 0;
      for (int d = 0; d < drawers; d++) {
        if ((goodsSet >> goods.at(d) & 1) == 1) set |= 1 << d;
      }
      return set;
    }

    boolean isDanger(int state) {
      int poisoned = drawersHolding(poison) & drawersOutBy(state, OPEN);
      int eaten = drawersHolding(food) & ~drawersOutBy(state, SHUT);
      return (drawersBeside(poisoned) & eaten) != 0;
    }

    boolean areSightsSo(int cordSet) {
      int state = 0;
      for (int s = 0; s < sightDrawers.size(); s++) {
        if (after(state, sightDrawers.at(s), cordSet) != sightStates.at(s)) return false;
        state = sightStates.at(s);
      }
      return true;
    }
  }

  /**
   * Goes out from a STATE breadth first, DRAWERS rising: then the first way found to a STATE is the
   * first ROW of the fewest PULLS, and nothing has to be compared.
   */
  private static final class Walk {
    private static final int UNSEEN = -1, BARRED = -2;

    private final Row steps = new Row(MOST_DRAWERS * MOST_STATES);
    private final Row far = new Row(MOST_STATES);
    private final Row ahead = new Row(MOST_STATES);
    private final Row by = new Row(MOST_STATES);
    private final Row found = new Row(MOST_STATES);
    private boolean isLearned = false;
    private int drawers = 0;
    private int states = 0;
    private int tiedFrom = NONE;
    private int tiedTo = NONE;
    private int tiedBy = 0;

    Walk() {
      steps.fill(MOST_DRAWERS * MOST_STATES, 0);
      ahead.fill(MOST_STATES, 0);
      by.fill(MOST_STATES, 0);
    }

    /** A walk asks for the same PULLS many times: they are tabled until the wall is told anew. */
    void learn(Wall wall) {
      if (isLearned) return;
      isLearned = true;
      drawers = wall.drawers;
      states = power(wall.drawers);
      for (int d = 0; d < drawers; d++) learnDrawer(wall, d, ALL_CORDS);
    }

    void forget() {
      isLearned = false;
    }

    void learnDrawer(Wall wall, int drawer, int cordSet) {
      for (int s = 0; s < states; s++) {
        steps.set(drawer * MOST_STATES + s, wall.after(s, drawer, cordSet));
      }
    }

    /** TIE tries many CORDS: each is laid over the table, which stays (from NONE: no CORD). */
    void tied(int from, int to, int v) {
      tiedFrom = from;
      tiedTo = to;
      tiedBy = v;
    }

    private int step(int state, int drawer) {
      int then = steps.at(drawer * MOST_STATES + state);
      // only a PULL that a CATCH stops leaves the STATE as it is: then no CORD is drawn
      if (drawer != tiedFrom || then == state) return then;
      return moved(then, tiedTo, tiedBy);
    }

    void begin() {
      far.fill(states, UNSEEN);
      found.drop();
    }

    void barDangers(Wall wall) {
      for (int s = 0; s < states; s++) {
        if (wall.isDanger(s)) far.set(s, BARRED);
      }
    }

    void spread(int start) {
      meet(start, NONE, NONE);
      for (int i = 0; i < found.size() && i < states; i++) grow(found.at(i));
    }

    private void grow(int state) {
      for (int d = 0; d < drawers; d++) meet(step(state, d), state, d);
    }

    private void meet(int state, int from, int drawer) {
      if (far.at(state) != UNSEEN) return;
      far.set(state, from == NONE ? 0 : far.at(from) + 1);
      ahead.set(state, from);
      by.set(state, drawer);
      found.add(state);
    }

    int firstWith(int start, int open, int shut) {
      meet(start, NONE, NONE);
      for (int i = 0; i < found.size() && i < states; i++) {
        int state = found.at(i);
        boolean areOpen = (drawersOutBy(state, OPEN) & open) == open;
        if (areOpen && (drawersOutBy(state, SHUT) & shut) == shut) return state;
        grow(state);
      }
      return NONE;
    }

    /** Of DRAWERS as near as one another the least counts: all STATES as near are looked at. */
    int nearestOpen(int start, int holders) {
      int best = NONE;
      int bestDrawer = MOST_DRAWERS;
      meet(start, NONE, NONE);
      for (int i = 0; i < found.size() && i < states; i++) {
        int state = found.at(i);
        // when the first one so far is looked at, all others so far have been found
        if (best != NONE && far.at(state) > far.at(best)) break;
        int open = drawersOutBy(state, OPEN) & holders;
        int drawer = Integer.numberOfTrailingZeros(open);
        if (open != 0 && drawer < bestDrawer) {
          best = state;
          bestDrawer = drawer;
        }
        if (best == NONE) grow(state);
      }
      return best;
    }

    int pulledAt(int state, int i) {
      // a STATE knows only the PULL that led to it, so the ROW is gone back from its end
      int at = state;
      for (int k = far.at(state) - 1; k > i; k--) at = ahead.at(at);
      return by.at(at);
    }

    int everOpen() {
      int bits = 0;
      for (int i = 0; i < found.size(); i++) bits |= drawersOutBy(found.at(i), OPEN);
      return bits;
    }

    private boolean isJam(int state) {
      for (int d = 0; d < drawers; d++) {
        if (step(state, d) != state) return false;
      }
      return true;
    }

    int jams() {
      int many = 0;
      for (int i = 0; i < found.size(); i++) {
        if (isJam(found.at(i))) many++;
      }
      return many;
    }

    int leastJam() {
      for (int s = 0; s < states; s++) {
        if (far.at(s) != UNSEEN && isJam(s)) return s;
      }
      return NONE;
    }
  }

  /** A DAY's two numbers stand together, for LAID compares days by both. */
  private static final class Day {
    private int served = 0;
    private int pulls = 0;

    /** The GOODS of a and b are changed in thought only; a alike b is the DAY as it is. */
    void run(Wall wall, Walk walk, int a, int b) {
      served = 0;
      pulls = 0;
      int state = 0;
      for (int o = 0; o < wall.orders.size(); o++) {
        int holders = exchanged(wall.drawersHolding(1 << wall.orders.at(o)), a, b);
        walk.begin();
        state = walk.nearestOpen(state, holders);
        if (state == NONE) return;
        served++;
        pulls += walk.far.at(state);
      }
    }

    private static int exchanged(int set, int a, int b) {
      boolean areAlike = (set >> a & 1) == (set >> b & 1);
      return areAlike ? set : set ^ (1 << a | 1 << b);
    }

    boolean isBetterThan(Day that) {
      if (served != that.served) return served > that.served;
      return pulls < that.pulls;
    }

    void copyFrom(Day that) {
      served = that.served;
      pulls = that.pulls;
    }
  }

  /** A FAULT far behind keeps the first ITEM from being told: so all is read ahead of telling. */
  private static final class Reader {
    private static final int END = 0, WRONG = 1, NUMBER = 2, MINUS = 3, STOP = 4;
    private static final int DRAWERS = 5, CORD = 6, CATCH = 7, GOOD = 8, ORDER = 9;
    private static final int ITEM_CELLS = 5;

    private final Row bytes = new Row(TEXT_BYTES);
    private final Row cells = new Row(ITEM_CELLS * TEXT_BYTES);
    private int place = 0;
    private int next = 0;
    private int token = END;

    int items() {
      return cells.size() / ITEM_CELLS;
    }

    int faultIn(Row text) {
      bytes.copyFrom(text);
      cells.drop();
      next = 0;
      for (int i = 0; i <= bytes.size(); i++) {
        scan();
        if (token == END && items() > 0) return NONE;
        boolean isDue = items() == 0 ? token == DRAWERS : token > DRAWERS;
        if (!isDue || !takeItem(token)) return place;
      }
      return place;
    }

    private boolean takeItem(int word) {
      int due = numbersOf(word);
      cells.add(word);
      for (int k = 0; k < ITEM_CELLS - 1; k++) {
        if (k >= due) {
          cells.add(0);
          continue;
        }
        scan();
        boolean isBelow = word == CORD && k == due - 1 && token == MINUS;
        if (isBelow) scan();
        if (token != NUMBER) return false;
        int figure = bytes.at(place) - '0';
        cells.add(isBelow ? -figure : figure);
      }
      scan();
      return token == STOP;
    }

    private static int numbersOf(int word) {
      if (word == CORD) return 4;
      return word == GOOD ? 2 : 1;
    }

    private void scan() {
      for (int i = next; i < bytes.size() && bytes.at(i) == ' '; i++) next = i + 1;
      place = next;
      if (!bytes.holds(place)) {
        token = END;
        return;
      }
      int first = bytes.at(place);
      next = place + 1;
      if (isLetter(first)) token = wordHere();
      else if (isFigure(first)) token = numberHere();
      else if (first == '-') token = MINUS;
      else token = first == ';' ? STOP : WRONG;
    }

    private int numberHere() {
      for (int i = next; i < bytes.size() && isFigure(bytes.at(i)); i++) next = i + 1;
      return next == place + 1 ? NUMBER : WRONG;
    }

    private int wordHere() {
      for (int i = next; i < bytes.size() && isLetter(bytes.at(i)); i++) next = i + 1;
      if (isHere("drawers")) return DRAWERS;
      if (isHere("cord")) return CORD;
      if (isHere("catch")) return CATCH;
      if (isHere("good")) return GOOD;
      return isHere("order") ? ORDER : WRONG;
    }

    private boolean isHere(String word) {
      if (next - place != word.length()) return false;
      for (int i = 0; i < word.length(); i++) {
        if (bytes.at(place + i) != word.charAt(i)) return false;
      }
      return true;
    }

    private static boolean isLetter(int b) {
      return b >= 'a' && b <= 'z';
    }

    private static boolean isFigure(int b) {
      return b >= '0' && b <= '9';
    }

    int refusedBy(Wall wall) {
      for (int i = 0; i < items(); i++) {
        int answer = tell(wall, i * ITEM_CELLS);
        if (answer == BAD || answer == NO || answer == FULL) return i;
      }
      return NONE;
    }

    private int tell(Wall wall, int at) {
      int first = cells.at(at + 1);
      int second = cells.at(at + 2);
      switch (cells.at(at)) {
        case DRAWERS: return wall.tellDrawers(first);
        case CORD: return wall.tellCord(first, second, cells.at(at + 3), cells.at(at + 4));
        case CATCH: return wall.tellCatch(first, true);
        case GOOD: return wall.tellGoods(first, second);
        default: return wall.tellOrder(first);
      }
    }
  }
}
