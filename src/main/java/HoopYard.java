import java.util.Arrays;

/** A yard for barrel hoops. What each call does and answers stands in DOC.md, promise by promise. */
public final class HoopYard {
  public static final int NONE = -1, BAD = -2, STATE = -3, FULL = -4, NOT = -5;
  public static final long NO = Long.MIN_VALUE;

  private static final int EMPTY = -11, OUTSIDE = -12, OTHER = -13, SIZE = -14;

  private static final int MOST_STAVES = 9, MOST_HOOPS = 6, MOST_BOARDS = 7;
  private static final int MOST_RING = 8;
  private static final int MOST_SUM = 999;
  private static final int MOST_PRESS = 99;
  private static final int MOST_LEAK = 9999;
  private static final int MOST_SIZE = 600;
  private static final int MOST_RADIUS = 200;
  private static final int MOST_TAPE = 80;
  private static final int MOST_ITEMS = 30;
  private static final int PEGS = 6;

  private static final int HEIGHTS = 9, MIDDLE = 4, TOP = 8;

  private static final int GIRTH = 0, SLACK = 1, TAPER = 2, NEED = 3, RULES = 4;
  private static final int[] LEAST_RULE = {10, 0, 0, -20};
  private static final int[] MOST_RULE = {500, 50, 20, 20};

  /** For every kind the one that it is under; the kind 0 is under none. */
  private static final int[] STAVE_UNDER = {NONE, 0, 0, 2, 1};
  private static final int[] HOOP_UNDER = {NONE, 0, 0, 1};

  /** What is told of numbers that may be negative lies this much higher, so that no answer looks like NONE. */
  private static final int RAISED = 100;

  private static final int TEXT_FAULT = -100, DEED_FAULT = -300;

  private final Stock stock;
  private final Stock kept;
  private boolean isKept;
  private final Thing[] pegs;
  private final Tape tape;
  private int textsDone;
  private final Rounds rounds;
  private final RingBench bench;
  private final Cask cask;
  private final HeadBench saw;

  public HoopYard() {
    stock = new Stock();
    kept = new Stock();
    isKept = false;
    pegs = new Thing[PEGS];
    tape = new Tape();
    textsDone = 0;
    rounds = new Rounds();
    bench = new RingBench();
    cask = new Cask();
    saw = new HeadBench();
  }

  public int stave(int kind, int width, int thick, int bevel) {
    if (!Stave.canBe(kind, width, thick, bevel)) {
      return BAD;
    }
    return stock.addStave(new Stave(kind, width, thick, bevel));
  }

  public int hoop(int kind, int size, int side) {
    if (!Hoop.canBe(kind, size, side)) {
      return BAD;
    }
    return stock.addHoop(new Hoop(kind, size, side));
  }

  public int board(int width) {
    if (!Board.canBe(width)) {
      return BAD;
    }
    return stock.addBoard(new Board(width));
  }

  public int rule(int what, int v) {
    if (!isIn(what, 0, RULES - 1)) {
      return NONE;
    }
    if (!canRule(what, v)) {
      return BAD;
    }
    stock.rules[what] = v;
    return 1;
  }

  public int told(int what) {
    switch (what) {
      case 0: return stock.rules[GIRTH];
      case 1: return stock.rules[SLACK];
      case 2: return stock.rules[TAPER];
      case 3: return stock.rules[NEED] + RAISED;
      case 4: return stock.staveCount;
      case 5: return stock.hoopCount;
      case 6: return stock.boardCount;
      case 7: return tape.size;
      case 8: return textsDone;
      default: return NONE;
    }
  }

  public int ofStave(int stave, int what) {
    Stave asked = stock.staveAt(stave);
    if (asked == null) {
      return NONE;
    }
    switch (what) {
      case 0: return asked.kind;
      case 1: return asked.width;
      case 2: return asked.thick;
      case 3: return asked.bevel + RAISED;
      case 4: return asked.counts();
      case 5: return asked.edge() + RAISED;
      case 6: return asked.price();
      case 7: return sagOf(asked.counts(), stock.rules[GIRTH]);
      default: return NONE;
    }
  }

  public int takes(int what) {
    switch (what) {
      case 0: return stock.dropStave();
      case 1: return stock.dropHoop();
      case 2: return stock.dropBoard();
      default: return BAD;
    }
  }

  public int shave(int stave, int width) {
    Stave shaved = stock.staveAt(stave);
    if (shaved == null) {
      return NONE;
    }
    if (!isIn(width, 1, shaved.width)) {
      return BAD;
    }
    int before = shaved.width;
    shaved.width = width;
    return before;
  }

  public int fits(int what) {
    if (!isIn(what, 0, 3)) {
      return BAD;
    }
    rounds.addUp(stock);
    int low = stock.rules[GIRTH];
    int high = low + stock.rules[SLACK];
    if (what == 0) {
      return rounds.howMany(low, high);
    }
    int best = rounds.bestBetween(low, high);
    if (best == NOT || what == 1) {
      return best;
    }
    return what == 2 ? rounds.counts[best] : rounds.prices[best];
  }

  public int sums(int sum) {
    if (!isIn(sum, 0, MOST_SUM)) {
      return BAD;
    }
    rounds.addUp(stock);
    return rounds.howMany(sum, sum);
  }

  public int nearest(int sum) {
    if (!isIn(sum, 0, MOST_SUM)) {
      return BAD;
    }
    if (stock.staveCount == 0) {
      return STATE;
    }
    rounds.addUp(stock);
    return rounds.closestTo(sum);
  }

  public int least(int set, int p, int what) {
    if (!isRingSet(set) || !isPress(p) || !isIn(what, 0, 1)) {
      return BAD;
    }
    bench.layLeast(stock, set, p);
    return what == 0 ? bench.leakUnder(p) : bench.digits();
  }

  public int leak(int ring, int p) {
    if (!isPress(p) || !bench.layTold(stock, ring)) {
      return BAD;
    }
    return bench.leakUnder(p);
  }

  public int worst(int ring, int i, int what) {
    if (!isIn(what, 0, 1) || !bench.layTold(stock, ring)) {
      return BAD;
    }
    int joint = bench.jointOfRank(i);
    if (joint == NONE) {
      return NONE;
    }
    return what == 0 ? joint : bench.gaps[joint];
  }

  public int rings(int set, int p, int most) {
    if (!isRingSet(set) || !isPress(p) || !isIn(most, 0, MOST_LEAK)) {
      return BAD;
    }
    return bench.howManyWithin(stock, set, p, most);
  }

  public int girth(int height) {
    return isHeight(height) ? Cask.girthAt(stock, height) : NONE;
  }

  public int ofHoop(int hoop, int what) {
    Hoop asked = stock.hoopAt(hoop);
    if (asked == null) {
      return NONE;
    }
    switch (what) {
      case 0: return asked.kind;
      case 1: return asked.size;
      case 2: return asked.side;
      case 3:
      case 4:
      case 5: return ofResting(asked, hoop, what);
      default: return NONE;
    }
  }

  public int press(int height) {
    if (!isHeight(height)) {
      return NONE;
    }
    cask.drive(stock);
    return Cask.capped(cask.pressing[height]);
  }

  public int wet(int set) {
    if (!isRingSet(set)) {
      return BAD;
    }
    cask.drive(stock);
    return cask.wetBelow(bench.tightPress(stock, set));
  }

  public int driest(int set, int most) {
    if (!isRingSet(set) || !isIn(most, 1, MOST_SIZE)) {
      return BAD;
    }
    if (stock.hoopCount >= MOST_HOOPS) {
      return FULL;
    }
    cask.drive(stock);
    return cask.driestSize(stock, most, bench.tightPress(stock, set));
  }

  public int head(int r, int what) {
    if (!isRadius(r) || !isIn(what, 0, 2)) {
      return BAD;
    }
    saw.measure(stock, r);
    int spent = saw.leastSpent();
    if (spent == NOT || what == 0) {
      return spent;
    }
    int digits = saw.leastDigits();
    return what == 1 ? howManyDigits(digits) : digits;
  }

  public int used(int r, int row) {
    if (!isRadius(r)) {
      return BAD;
    }
    saw.measure(stock, r);
    return saw.spentBy(row);
  }

  public int heads(int r) {
    if (!isRadius(r)) {
      return BAD;
    }
    saw.measure(stock, r);
    return saw.howMany();
  }

  public int feed(int letter) {
    if (!isIn(letter, 0, 127)) {
      return BAD;
    }
    return tape.append((byte) letter);
  }

  public int read() {
    boolean isText = tape.parse();
    int faultPlace = tape.cursor;
    tape.size = 0;
    if (!isText) {
      return TEXT_FAULT - faultPlace;
    }
    int undoable = tape.firstUndoable(stock);
    if (undoable != NONE) {
      return DEED_FAULT - undoable;
    }
    tape.carryOut(stock);
    textsDone++;
    return tape.statements;
  }

  public int hang(int peg, int what, int i) {
    if (!isPeg(peg)) {
      return NONE;
    }
    if (!isIn(what, 0, 3)) {
      return BAD;
    }
    Thing thing = what == 3 ? null : stock.thingAt(what, i);
    if (thing == null && what != 3) {
      return NONE;
    }
    pegs[peg] = thing;
    return 1;
  }

  public int tray(int peg, int sort, int n) {
    if (!isPeg(peg)) {
      return NONE;
    }
    if (!isIn(sort, 0, 1) || n > MOST_ITEMS) {
      return BAD;
    }
    if (n < 0) {
      return SIZE;
    }
    pegs[peg] = new Tray(sort, n);
    return 1;
  }

  public int held(int peg) {
    if (!isPeg(peg)) {
      return NONE;
    }
    Thing thing = pegs[peg];
    return thing == null ? 0 : thing.toldAs();
  }

  public int as(int peg, int what, int kind) {
    if (!isPeg(peg)) {
      return NONE;
    }
    if (!isIn(what, 0, 2) || !isIn(kind, 0, kindsOf(what) - 1)) {
      return BAD;
    }
    Thing thing = pegs[peg];
    if (thing == null) {
      return EMPTY;
    }
    if (what == 0 && thing instanceof Stave stave) {
      return isUnder(stave.kind, kind, STAVE_UNDER) ? stave.width : OTHER;
    }
    if (what == 1 && thing instanceof Hoop hoop) {
      return isUnder(hoop.kind, kind, HOOP_UNDER) ? hoop.size : OTHER;
    }
    if (what == 2 && thing instanceof Board board) {
      return board.width;
    }
    return OTHER;
  }

  public int put(int peg, int i, long v) {
    Tray tray = trayOn(peg);
    if (tray == null) {
      return lackOfTray(peg);
    }
    if (!tray.hasItem(i)) {
      return OUTSIDE;
    }
    tray.lay(i, v);
    return 1;
  }

  public long get(int peg, int i) {
    Tray tray = trayOn(peg);
    return tray != null && tray.hasItem(i) ? tray.items[i] : NO;
  }

  public int fill(int peg, int set, int p) {
    Tray tray = trayOn(peg);
    if (tray == null || !isRingSet(set) || !isPress(p)) {
      return lackForRing(peg, set, p);
    }
    bench.layLeast(stock, set, p);
    int laid = Math.min(tray.items.length, bench.size);
    for (int i = 0; i < laid; i++) {
      tray.lay(i, bench.gaps[i]);
    }
    return laid;
  }

  public int judge(int peg, int set, int p) {
    Tray tray = trayOn(peg);
    if (tray == null || !isRingSet(set) || !isPress(p)) {
      return lackForRing(peg, set, p);
    }
    bench.layLeast(stock, set, p);
    for (int i = 0; i < tray.items.length; i++) {
      if (i >= bench.size || tray.items[i] != bench.gaps[i]) {
        return i;
      }
    }
    return NOT;
  }

  public int move(int peg, int i, int other, int j, int n) {
    if (!isPeg(peg) || !isPeg(other)) {
      return NONE;
    }
    if (pegs[peg] == null || pegs[other] == null) {
      return EMPTY;
    }
    Tray from = trayOn(peg);
    Tray to = trayOn(other);
    if (from == null || to == null || from.sort != to.sort) {
      return OTHER;
    }
    if (!from.hasRun(i, n) || !to.hasRun(j, n)) {
      return OUTSIDE;
    }
    System.arraycopy(from.items, i, to.items, j, n);
    return n;
  }

  public int image() {
    kept.becomeLike(stock);
    isKept = true;
    return kept.staveCount;
  }

  public int undo() {
    if (!isKept) {
      return STATE;
    }
    stock.becomeLike(kept);
    return stock.staveCount;
  }

  private static boolean isIn(int v, int low, int high) {
    return v >= low && v <= high;
  }

  private static boolean isPress(int p) {
    return isIn(p, 0, MOST_PRESS);
  }

  private static boolean isHeight(int height) {
    return isIn(height, 0, HEIGHTS - 1);
  }

  private static boolean isRadius(int r) {
    return isIn(r, 1, MOST_RADIUS);
  }

  private static boolean isPeg(int peg) {
    return isIn(peg, 0, PEGS - 1);
  }

  private static boolean canRule(int what, int v) {
    return isIn(what, 0, RULES - 1) && isIn(v, LEAST_RULE[what], MOST_RULE[what]);
  }

  private boolean isRingSet(int set) {
    return isIn(set, 1, (1 << stock.staveCount) - 1) && Integer.bitCount(set) <= MOST_RING;
  }

  private static boolean holds(int set, int i) {
    return (set >> i & 1) == 1;
  }

  private static int without(int set, int i) {
    return set & ~(1 << i);
  }

  private static int kindsOf(int what) {
    switch (what) {
      case 0: return STAVE_UNDER.length;
      case 1: return HOOP_UNDER.length;
      default: return 1;
    }
  }

  /** Whether a kind is the wanted one or under it; the steps up are counted, so that no tree can hold it up. */
  private static boolean isUnder(int kind, int wanted, int[] tree) {
    int at = kind;
    for (int step = 0; step < tree.length && at >= 0 && at < tree.length; step++) {
      if (at == wanted) {
        return true;
      }
      at = tree[at];
    }
    return false;
  }

  /** The greatest whole number whose square is no more; nothing above 65535 is ever asked. */
  private static int rootOf(int n) {
    int root = 0;
    for (int bit = 128; bit > 0; bit >>= 1) {
      int tried = root + bit;
      if (tried * tried <= n) {
        root = tried;
      }
    }
    return root;
  }

  private static int sagOf(int counts, int girth) {
    int across = 2 * (113 * girth / 710);
    if (counts > across) {
      return NOT;
    }
    return (across - rootOf(across * across - counts * counts)) / 2;
  }

  private static int howManyDigits(int digits) {
    int many = 0;
    int left = digits;
    for (int step = 0; step < 10 && left > 0; step++) {
      many++;
      left /= 10;
    }
    return many;
  }

  /** The digits of a number, each 1 less, into a row of unlike things; how many, or 0 if they make no such row. */
  private static int spellRow(int digits, int things, int[] row) {
    int many = howManyDigits(digits);
    if (many < 1 || many > row.length) {
      return 0;
    }
    int left = digits;
    int seen = 0;
    for (int place = many - 1; place >= 0; place--) {
      int thing = left % 10 - 1;
      if (thing < 0 || thing >= things || holds(seen, thing)) {
        return 0;
      }
      row[place] = thing;
      seen |= 1 << thing;
      left /= 10;
    }
    return many;
  }

  /** What of a hoop depends on where it rests. */
  private int ofResting(Hoop asked, int number, int what) {
    cask.drive(stock);
    int depth = cask.depths[number];
    if (depth == NOT) {
      return NOT;
    }
    int grip = Cask.gripAt(stock, depth, asked.size);
    switch (what) {
      case 3: return Cask.heightOf(depth, asked.side);
      case 4: return grip;
      default: return Hoop.presses(asked.kind, grip);
    }
  }

  /** The tray on a peg; null if there is no such peg or no tray on it. */
  private Tray trayOn(int peg) {
    if (isPeg(peg) && pegs[peg] instanceof Tray tray) {
      return tray;
    }
    return null;
  }

  /** What to answer of a peg on which there is no tray. */
  private int lackOfTray(int peg) {
    if (!isPeg(peg)) {
      return NONE;
    }
    return pegs[peg] == null ? EMPTY : OTHER;
  }

  /** What to answer when a peg, a set or a press keeps a ring from being laid on a tray. */
  private int lackForRing(int peg, int set, int p) {
    boolean isTold = isRingSet(set) && isPress(p);
    return isPeg(peg) && !isTold ? BAD : lackOfTray(peg);
  }

  /** What can hang on a peg. */
  private abstract static class Thing {
    abstract int toldAs();
  }

  private static final class Stave extends Thing {
    static final int SAWN = 1, CLEFT = 2, BUNG = 3, THIN = 4;

    final int kind;
    int width;
    final int thick;
    final int bevel;

    Stave(int kind, int width, int thick, int bevel) {
      this.kind = kind;
      this.width = width;
      this.thick = thick;
      this.bevel = bevel;
    }

    static boolean canBe(int kind, int width, int thick, int bevel) {
      return isIn(kind, 0, THIN) && isIn(width, 1, 99) && isIn(thick, 1, 9) && isIn(bevel, -9, 9);
    }

    int toldAs() {
      return 1;
    }

    Stave twin() {
      return new Stave(kind, width, thick, bevel);
    }

    int counts() {
      int sawn = Math.max(1, width - 1);
      switch (kind) {
        case SAWN: return sawn;
        case BUNG: return width + 2;
        case THIN: return Math.max(1, sawn / 2);
        default: return width;
      }
    }

    int edge() {
      switch (kind) {
        case CLEFT:
        case BUNG: return bevel + 1;
        case THIN: return bevel - 2;
        default: return bevel;
      }
    }

    int price() {
      int plain = width * thick;
      switch (kind) {
        case SAWN:
        case THIN: return plain / 2;
        case BUNG: return plain + 7;
        default: return plain;
      }
    }
  }

  /** Never changed once made, so that an image may keep the hoop itself. */
  private static final class Hoop extends Thing {
    static final int WIRE = 1, ROPE = 2, DOUBLE = 3;

    final int kind;
    final int size;
    final int side;

    Hoop(int kind, int size, int side) {
      this.kind = kind;
      this.size = size;
      this.side = side;
    }

    static boolean canBe(int kind, int size, int side) {
      return isIn(kind, 0, DOUBLE) && isIn(size, 1, MOST_SIZE) && isIn(side, 0, 1);
    }

    static int presses(int kind, int grip) {
      switch (kind) {
        case WIRE: return 2 * grip;
        case ROPE: return grip / 2;
        case DOUBLE: return 2 * grip + 3;
        default: return grip;
      }
    }

    int toldAs() {
      return 2;
    }
  }

  /** Never changed once made, so that an image may keep the board itself. */
  private static final class Board extends Thing {
    final int width;

    Board(int width) {
      this.width = width;
    }

    static boolean canBe(int width) {
      return isIn(width, 1, 99);
    }

    int toldAs() {
      return 3;
    }
  }

  /** Bytes are kept in longs as well: what they hold of a number is cut when it is laid. */
  private static final class Tray extends Thing {
    static final int BYTES = 0;

    final int sort;
    final long[] items;

    Tray(int sort, int n) {
      this.sort = sort;
      this.items = new long[Math.max(0, Math.min(n, MOST_ITEMS))];
    }

    int toldAs() {
      return sort == BYTES ? 4 : 5;
    }

    boolean hasItem(int i) {
      return i >= 0 && i < items.length;
    }

    /** Looked at by a difference: a sum of the two may be beyond what an int holds. */
    boolean hasRun(int i, int n) {
      return n >= 0 && n <= items.length && i >= 0 && i <= items.length - n;
    }

    void lay(int i, long v) {
      if (hasItem(i)) {
        items[i] = sort == BYTES ? (byte) v : v;
      }
    }
  }

  /** All that an image keeps. */
  private static final class Stock {
    final Stave[] staves = new Stave[MOST_STAVES];
    final Hoop[] hoops = new Hoop[MOST_HOOPS];
    final Board[] boards = new Board[MOST_BOARDS];
    final int[] rules = {100, 4, 3, 2};
    int staveCount;
    int hoopCount;
    int boardCount;

    Stave staveAt(int i) {
      return i >= 0 && i < staveCount ? staves[i] : null;
    }

    Hoop hoopAt(int i) {
      return i >= 0 && i < hoopCount ? hoops[i] : null;
    }

    Board boardAt(int i) {
      return i >= 0 && i < boardCount ? boards[i] : null;
    }

    Thing thingAt(int what, int i) {
      switch (what) {
        case 0: return staveAt(i);
        case 1: return hoopAt(i);
        default: return boardAt(i);
      }
    }

    int addStave(Stave more) {
      if (staveCount >= MOST_STAVES) {
        return FULL;
      }
      staves[staveCount] = more;
      return staveCount++;
    }

    int addHoop(Hoop more) {
      if (hoopCount >= MOST_HOOPS) {
        return FULL;
      }
      hoops[hoopCount] = more;
      return hoopCount++;
    }

    int addBoard(Board more) {
      if (boardCount >= MOST_BOARDS) {
        return FULL;
      }
      boards[boardCount] = more;
      return boardCount++;
    }

    int dropStave() {
      return staveCount > 0 ? --staveCount : STATE;
    }

    int dropHoop() {
      return hoopCount > 0 ? --hoopCount : STATE;
    }

    int dropBoard() {
      return boardCount > 0 ? --boardCount : STATE;
    }

    /** Staves are laid as twins: a shave here must not reach the other stock, nor one that hangs on a peg. */
    void becomeLike(Stock model) {
      staveCount = model.staveCount;
      for (int i = 0; i < staveCount; i++) {
        Stave stave = model.staveAt(i);
        staves[i] = stave == null ? null : stave.twin();
      }
      hoopCount = model.hoopCount;
      for (int i = 0; i < hoopCount; i++) {
        hoops[i] = model.hoops[i];
      }
      boardCount = model.boardCount;
      for (int i = 0; i < boardCount; i++) {
        boards[i] = model.boards[i];
      }
      for (int i = 0; i < RULES; i++) {
        rules[i] = model.rules[i];
      }
    }
  }

  /** What every set of staves counts and costs, the set's bits being the index. */
  private static final class Rounds {
    final int[] counts = new int[1 << MOST_STAVES];
    final int[] prices = new int[1 << MOST_STAVES];
    int sets;

    void addUp(Stock stock) {
      sets = 1 << stock.staveCount;
      for (int i = 0; i < stock.staveCount; i++) {
        Stave stave = stock.staveAt(i);
        int many = stave == null ? 0 : stave.counts();
        int price = stave == null ? 0 : stave.price();
        int bit = 1 << i;
        for (int set = 0; set < bit; set++) {
          counts[bit + set] = counts[set] + many;
          prices[bit + set] = prices[set] + price;
        }
      }
    }

    int howMany(int low, int high) {
      int many = 0;
      for (int set = 0; set < sets; set++) {
        if (isIn(counts[set], low, high)) {
          many++;
        }
      }
      return many;
    }

    int bestBetween(int low, int high) {
      int best = NOT;
      for (int set = 1; set < sets; set++) {
        if (isIn(counts[set], low, high) && (best == NOT || isBetter(set, best))) {
          best = set;
        }
      }
      return best;
    }

    /** Sets are looked at by rising bits: one that is better in nothing else is not better. */
    boolean isBetter(int set, int best) {
      if (counts[set] != counts[best]) {
        return counts[set] < counts[best];
      }
      if (prices[set] != prices[best]) {
        return prices[set] < prices[best];
      }
      return Integer.bitCount(set) < Integer.bitCount(best);
    }

    int closestTo(int sum) {
      int best = counts[1];
      for (int set = 2; set < sets; set++) {
        int off = Math.abs(counts[set] - sum);
        int bestOff = Math.abs(best - sum);
        if (off < bestOff || off == bestOff && counts[set] < best) {
          best = counts[set];
        }
      }
      return best;
    }
  }

  /**
   * One ring after another is laid here: told by its digits, or the least of a set. Places 0 .. size - 1 stand for the
   * staves of a chosen set, the least one first.
   */
  private static final class RingBench {
    final int[] chosen = new int[MOST_RING];
    final int[] order = new int[MOST_RING];
    final int[] gaps = new int[MOST_RING];
    final int[][] costs = new int[MOST_RING][MOST_RING];
    /** By the places still left (bits) and the last one laid: the least that it costs to go on and back to place 0. */
    final int[] onward = new int[(1 << MOST_RING - 1) * MOST_RING];
    int size;

    /** Lays the ring that the digits tell; false if they tell none. */
    boolean layTold(Stock stock, int ring) {
      size = spellRow(ring, stock.staveCount, order);
      for (int k = 1; k < size; k++) {
        if (order[k] < order[0]) {
          return false;
        }
      }
      measureGaps(stock);
      return size > 0;
    }

    /** What is least is tried from the least place on, so the digits are the least of several. */
    void layLeast(Stock stock, int set, int p) {
      choose(stock, set, p);
      weigh(false);
      int left = allButFirst();
      int last = 0;
      order[0] = chosen[0];
      for (int k = 1; k < size; k++) {
        int next = firstOfLeast(left, last);
        order[k] = chosen[next];
        left &= ~(1 << next);
        last = next;
      }
      measureGaps(stock);
    }

    int leakUnder(int p) {
      int leak = 0;
      for (int joint = 0; joint < size; joint++) {
        leak += Math.max(0, gaps[joint] - p);
      }
      return leak;
    }

    int digits() {
      int digits = 0;
      for (int k = 0; k < size; k++) {
        digits = digits * 10 + order[k] + 1;
      }
      return digits;
    }

    int jointOfRank(int wanted) {
      for (int joint = 0; joint < size; joint++) {
        if (rankOf(joint) == wanted) {
          return joint;
        }
      }
      return NONE;
    }

    int rankOf(int joint) {
      int ahead = 0;
      for (int other = 0; other < size; other++) {
        if (gaps[other] > gaps[joint] || gaps[other] == gaps[joint] && other < joint) {
          ahead++;
        }
      }
      return ahead;
    }

    int howManyWithin(Stock stock, int set, int p, int most) {
      choose(stock, set, p);
      return countOnward(costs, size, allButFirst(), 0, most, 1);
    }

    /** The least press under which some ring of the set leaks nothing: where the widest of its gaps is least. */
    int tightPress(Stock stock, int set) {
      choose(stock, set, 0);
      weigh(true);
      return onward[cellOf(allButFirst(), 0)];
    }

    private void measureGaps(Stock stock) {
      for (int k = 0; k < size; k++) {
        gaps[k] = gapOf(stock, order[k], order[k + 1 < size ? k + 1 : 0]);
      }
    }

    private static int gapOf(Stock stock, int one, int other) {
      return Math.abs(edgeOf(stock, one) + edgeOf(stock, other) - stock.rules[NEED]);
    }

    private static int edgeOf(Stock stock, int i) {
      Stave stave = stock.staveAt(i);
      return stave == null ? 0 : stave.edge();
    }

    private void choose(Stock stock, int set, int p) {
      size = 0;
      for (int i = 0; i < stock.staveCount && size < MOST_RING; i++) {
        if (holds(set, i)) {
          chosen[size] = i;
          size++;
        }
      }
      for (int a = 0; a < size; a++) {
        for (int b = 0; b < size; b++) {
          costs[a][b] = Math.max(0, gapOf(stock, chosen[a], chosen[b]) - p);
        }
      }
    }

    private int allButFirst() {
      return (1 << size) - 2;
    }

    /** Place 0 is never left, so its bit needs no cells. */
    private static int cellOf(int left, int last) {
      return (left >> 1) * MOST_RING + last;
    }

    /** Fills onward; widest: a ring costs what its dearest joint does, not all of them together. */
    private void weigh(boolean widest) {
      int all = allButFirst();
      for (int left = 0; left <= all; left += 2) {
        for (int last = 0; last < size; last++) {
          if (!holds(left, last)) {
            onward[cellOf(left, last)] = leastOnward(left, last, widest);
          }
        }
      }
    }

    private int leastOnward(int left, int last, boolean widest) {
      if (left == 0) {
        return costs[last][0];
      }
      int best = NOT;
      for (int next = 1; next < size; next++) {
        if (holds(left, next)) {
          int rest = onward[cellOf(without(left, next), next)];
          int cost = costs[last][next];
          int whole = widest ? Math.max(cost, rest) : cost + rest;
          best = best == NOT ? whole : Math.min(best, whole);
        }
      }
      return best;
    }

    private int firstOfLeast(int left, int last) {
      int least = onward[cellOf(left, last)];
      for (int next = 1; next < size; next++) {
        if (holds(left, next) && costs[last][next] + onward[cellOf(without(left, next), next)] == least) {
          return next;
        }
      }
      return 0;
    }

    /** How many ways on and back to place 0 cost no more than room; as deep as places are laid. */
    private static int countOnward(int[][] costs, int size, int left, int last, int room, int depth) {
      if (depth > MOST_RING) {
        return 0;
      }
      if (left == 0) {
        return costs[last][0] <= room ? 1 : 0;
      }
      int many = 0;
      for (int next = 1; next < size; next++) {
        if (holds(left, next) && costs[last][next] <= room) {
          many += countOnward(costs, size, without(left, next), next, room - costs[last][next], depth + 1);
        }
      }
      return many;
    }
  }

  /** How the hoops of a yard stand on its cask. */
  private static final class Cask {
    /** How far from its own end each hoop rests (NOT: nowhere): both sides mirror one another. */
    final int[] depths = new int[MOST_HOOPS];
    /** What the hoops press at each height together, the 99 at most of a PRESS not yet kept. */
    final int[] pressing = new int[HEIGHTS];

    static int girthAt(Stock stock, int height) {
      return Math.max(1, stock.rules[GIRTH] - stock.rules[TAPER] * Math.abs(height - MIDDLE));
    }

    static int heightOf(int depth, int side) {
      return side == 0 ? depth : TOP - depth;
    }

    /** Finds where all hoops rest and what they press. */
    void drive(Stock stock) {
      Arrays.fill(pressing, 0);
      for (int i = 0; i < stock.hoopCount; i++) {
        Hoop hoop = stock.hoopAt(i);
        depths[i] = hoop == null ? NOT : restDepth(stock, hoop.size, hoop.side, i);
        if (hoop != null && depths[i] != NOT) {
          addPress(hoop, depths[i], gripAt(stock, depths[i], hoop.size));
        }
      }
    }

    private void addPress(Hoop hoop, int depth, int grip) {
      int rest = heightOf(depth, hoop.side);
      int presses = Hoop.presses(hoop.kind, grip);
      for (int height = 0; height < HEIGHTS; height++) {
        pressing[height] += pressFrom(rest, presses, height);
      }
    }

    /** Where a hoop with the told number rests, the depths of those with lesser numbers being known. */
    int restDepth(Stock stock, int size, int side, int number) {
      int farthest = MIDDLE + 1;
      for (int i = 0; i < number; i++) {
        Hoop ahead = stock.hoopAt(i);
        if (ahead != null && ahead.side == side && depths[i] != NOT) {
          farthest = Math.min(farthest, depths[i]);
        }
      }
      for (int depth = 0; depth <= MIDDLE; depth++) {
        if (depth == farthest || girthAt(stock, depth) >= size) {
          return depth;
        }
      }
      return NOT;
    }

    static int gripAt(Stock stock, int height, int size) {
      return Math.max(0, girthAt(stock, height) - size);
    }

    static int pressFrom(int rest, int presses, int height) {
      return Math.max(0, presses - 2 * Math.abs(height - rest));
    }

    static int capped(int pressing) {
      return Math.min(pressing, MOST_PRESS);
    }

    int wetBelow(int tight) {
      int wet = 0;
      for (int height = 0; height < HEIGHTS; height++) {
        if (capped(pressing[height]) < tight) {
          wet |= 1 << height;
        }
      }
      return wet;
    }

    int driestSize(Stock stock, int most, int tight) {
      int best = NOT;
      int fewest = Integer.bitCount(wetBelow(tight));
      for (int size = 1; size <= most; size++) {
        int rest = restDepth(stock, size, 0, stock.hoopCount);
        int wet = rest == NOT ? fewest : howManyWetWith(rest, gripAt(stock, rest, size), tight);
        if (wet < fewest) {
          fewest = wet;
          best = size;
        }
      }
      return best;
    }

    private int howManyWetWith(int rest, int presses, int tight) {
      int wet = 0;
      for (int height = 0; height < HEIGHTS; height++) {
        if (capped(pressing[height] + pressFrom(rest, presses, height)) < tight) {
          wet++;
        }
      }
      return wet;
    }
  }

  /** Heads of one radius. A set of boards (bits) laid from the side on ends at one place, in whatever row they lie. */
  private static final class HeadBench {
    final int[] widths = new int[MOST_BOARDS];
    final int[] row = new int[MOST_BOARDS];
    final int[] ends = new int[1 << MOST_BOARDS];
    /** By the set laid: what comes on top of it, counted as the question wants it (USED, or rows). */
    final int[] rest = new int[1 << MOST_BOARDS];
    int boards;
    int radius;

    void measure(Stock stock, int r) {
      radius = r;
      boards = stock.boardCount;
      ends[0] = 0;
      for (int i = 0; i < boards; i++) {
        Board board = stock.boardAt(i);
        widths[i] = board == null ? 0 : board.width;
        int bit = 1 << i;
        for (int set = 0; set < bit; set++) {
          ends[bit + set] = ends[set] + widths[i];
        }
      }
    }

    boolean isDone(int end) {
      return end >= 2 * radius;
    }

    /** WIDTH times CUT of a board that lies from a place inside the disc on. */
    int spentOn(int board, int from) {
      int width = widths[board];
      int off = Math.max(0, Math.max(from - radius, radius - (from + width)));
      int square = radius * radius - off * off;
      int root = rootOf(square);
      return width * 2 * (root * root < square ? root + 1 : root);
    }

    /** The least USED of all heads; NOT if there is none. */
    int leastSpent() {
      for (int laid = (1 << boards) - 1; laid >= 0; laid--) {
        rest[laid] = isDone(ends[laid]) ? 0 : leastOnward(laid);
      }
      return rest[0];
    }

    private int leastOnward(int laid) {
      int best = NOT;
      for (int next = 0; next < boards; next++) {
        int spent = holds(laid, next) ? NOT : spentFrom(laid, next);
        if (spent != NOT && (best == NOT || spent < best)) {
          best = spent;
        }
      }
      return best;
    }

    private int spentFrom(int laid, int next) {
      int after = rest[laid | 1 << next];
      return after == NOT ? NOT : spentOn(next, ends[laid]) + after;
    }

    /** Only behind leastSpent(). What is least is tried from the first board on, so it is the first of several. */
    int leastDigits() {
      int laid = 0;
      int digits = 0;
      for (int step = 0; step < boards && !isDone(ends[laid]); step++) {
        int next = firstOfLeast(laid);
        digits = digits * 10 + next + 1;
        laid |= 1 << next;
      }
      return digits;
    }

    private int firstOfLeast(int laid) {
      for (int next = 0; next < boards; next++) {
        if (!holds(laid, next) && spentFrom(laid, next) == rest[laid]) {
          return next;
        }
      }
      return 0;
    }

    int spentBy(int digits) {
      int many = spellRow(digits, boards, row);
      int spent = 0;
      int end = 0;
      for (int k = 0; k < many; k++) {
        if (isDone(end)) {
          return BAD;
        }
        spent += spentOn(row[k], end);
        end += widths[row[k]];
      }
      return isDone(end) ? spent : BAD;
    }

    int howMany() {
      for (int laid = (1 << boards) - 1; laid >= 0; laid--) {
        rest[laid] = isDone(ends[laid]) ? 1 : howManyOnward(laid);
      }
      return rest[0];
    }

    private int howManyOnward(int laid) {
      int many = 0;
      for (int next = 0; next < boards; next++) {
        if (!holds(laid, next)) {
          many += rest[laid | 1 << next];
        }
      }
      return many;
    }
  }

  /** The tape, and the statements of the text that was found on it. */
  private static final class Tape {
    /** A statement has two bytes at least, and one between it and the next. */
    static final int MOST_STATEMENTS = (MOST_TAPE + 1) / 3;
    static final int MOST_NUMBERS = 4, MOST_DIGITS = 4;
    static final int END = -1;

    final byte[] bytes = new byte[MOST_TAPE];
    final int[] letters = new int[MOST_STATEMENTS];
    final int[] places = new int[MOST_STATEMENTS];
    final int[][] numbers = new int[MOST_STATEMENTS][MOST_NUMBERS];
    int size;
    int statements;
    int cursor;

    int append(byte letter) {
      if (size >= MOST_TAPE) {
        return FULL;
      }
      bytes[size] = letter;
      size++;
      return size;
    }

    /** Whether the tape holds a text; if it does not, the cursor stands where none goes on. */
    boolean parse() {
      cursor = 0;
      statements = 0;
      for (int k = 0; k < MOST_STATEMENTS; k++) {
        if (!parseStatement(k)) {
          return false;
        }
        statements = k + 1;
        if (cursor == size) {
          return true;
        }
        if (!pass(';')) {
          return false;
        }
      }
      return false;
    }

    private boolean parseStatement(int k) {
      int letter = peek();
      int many = howManyNumbers(letter);
      if (many == 0) {
        return false;
      }
      letters[k] = letter;
      places[k] = cursor;
      cursor++;
      for (int n = 0; n < many; n++) {
        if (n > 0 && !pass(',') || !parseNumber(k, n)) {
          return false;
        }
      }
      return true;
    }

    private boolean parseNumber(int k, int n) {
      boolean isMinus = pass('-');
      int value = 0;
      int digits = 0;
      while (digits < MOST_DIGITS && isIn(peek(), '0', '9')) {
        value = value * 10 + peek() - '0';
        digits++;
        cursor++;
      }
      numbers[k][n] = isMinus ? -value : value;
      return digits > 0;
    }

    private int peek() {
      return cursor < size ? bytes[cursor] : END;
    }

    private boolean pass(int letter) {
      if (peek() != letter) {
        return false;
      }
      cursor++;
      return true;
    }

    private static int howManyNumbers(int letter) {
      switch (letter) {
        case 's': return 4;
        case 'h': return 3;
        case 'b':
        case 'g':
        case 't': return 1;
        default: return 0;
      }
    }

    /** The place of the letter of the first statement that can't be done; NONE if all can be. */
    int firstUndoable(Stock stock) {
      int staves = stock.staveCount;
      int hoops = stock.hoopCount;
      int boards = stock.boardCount;
      for (int k = 0; k < statements; k++) {
        staves += letters[k] == 's' ? 1 : 0;
        hoops += letters[k] == 'h' ? 1 : 0;
        boards += letters[k] == 'b' ? 1 : 0;
        boolean isRoom = staves <= MOST_STAVES && hoops <= MOST_HOOPS && boards <= MOST_BOARDS;
        if (!isRoom || !isInBounds(letters[k], numbers[k])) {
          return places[k];
        }
      }
      return NONE;
    }

    private static boolean isInBounds(int letter, int[] v) {
      switch (letter) {
        case 's': return Stave.canBe(v[0], v[1], v[2], v[3]);
        case 'h': return Hoop.canBe(v[0], v[1], v[2]);
        case 'b': return Board.canBe(v[0]);
        case 'g': return canRule(GIRTH, v[0]);
        default: return canRule(TAPER, v[0]);
      }
    }

    void carryOut(Stock stock) {
      for (int k = 0; k < statements; k++) {
        int[] v = numbers[k];
        switch (letters[k]) {
          case 's': stock.addStave(new Stave(v[0], v[1], v[2], v[3])); break;
          case 'h': stock.addHoop(new Hoop(v[0], v[1], v[2])); break;
          case 'b': stock.addBoard(new Board(v[0])); break;
          case 'g': stock.rules[GIRTH] = v[0]; break;
          default: stock.rules[TAPER] = v[0]; break;
        }
      }
    }
  }
}
