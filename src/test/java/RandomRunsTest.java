/** Long mixed runs of calls, the same every time, answered by HoopYard as by NaiveYard. */
public final class RandomRunsTest {
  private static final int RUNS = 400, CALLS = 512;

  private final Due due;
  private long seed;
  private HoopYard yard;
  private NaiveYard naive;
  private String at;

  private RandomRunsTest(Due due, long seed) {
    this.due = due;
    this.seed = seed * 2654435761L + 12345;
    yard = new HoopYard();
    naive = new NaiveYard();
  }

  public static void main(String[] args) {
    int runs = args.length > 0 ? Integer.parseInt(args[0]) : RUNS;
    Due due = new Due("RandomRunsTest");
    for (int run = 0; run < runs; run++) {
      RandomRunsTest test = new RandomRunsTest(due, run);
      test.run(run);
    }
    due.end();
  }

  private void run(int run) {
    int calls = 0;
    at = "run " + run + " call 0 ";
    if (any(5) > 0) {
      calls = stockUp();
    }
    // a theme for each run: calls of one sort reach farther when they come close together
    int theme = any(12);
    while (calls < CALLS - 90) {
      at = "run " + run + " call " + calls + " ";
      calls += step(any(2) == 0 ? any(12) : theme);
    }
  }

  private int stockUp() {
    int staves = any(10), hoops = any(7), boards = any(8);
    int wide = 1 + any(99);
    for (int k = 0; k < staves; k++) {
      int kind = any(5), width = 1 + any(wide), thick = 1 + any(9), bevel = any(19) - 9;
      same("stave", yard.stave(kind, width, thick, bevel), naive.stave(kind, width, thick, bevel));
    }
    for (int k = 0; k < hoops; k++) {
      int kind = any(4), size = 70 + any(40), side = any(2);
      same("hoop", yard.hoop(kind, size, side), naive.hoop(kind, size, side));
    }
    for (int k = 0; k < boards; k++) {
      int width = 1 + any(wide);
      same("board", yard.board(width), naive.board(width));
    }
    return staves + hoops + boards;
  }

  private int any(int n) {
    seed = seed * 6364136223846793005L + 1442695040888963407L;
    return (int) ((seed >>> 33) % n);
  }

  /** Mostly low .. high, now and then beyond them or far off. */
  private int near(int low, int high) {
    switch (any(120)) {
      case 0: return low - 1;
      case 1: return high + 1;
      case 2: return low;
      case 3: return high;
      case 4: return any(2) == 0 ? Integer.MIN_VALUE : Integer.MAX_VALUE;
      case 5: return any(2) == 0 ? -any(1000) : any(100000);
      default: return low + any(Math.max(1, high - low + 1));
    }
  }

  private void same(String call, long got, long want) {
    due.is(at + call, got, want);
  }

  private String told(String name, int... v) {
    StringBuilder text = new StringBuilder(name).append('(');
    for (int k = 0; k < v.length; k++) {
      text.append(k == 0 ? "" : ", ").append(v[k]);
    }
    return text.append(')').toString();
  }

  private int step(int sort) {
    switch (sort) {
      case 0: return makeThings();
      case 1: return any(3) == 0 ? rules() : makeThings();
      case 2: return staves();
      case 3: return rings();
      case 4: return hoops();
      case 5: return heads();
      case 6: return any(2) == 0 ? text() : images();
      default: return pegs();
    }
  }

  private int makeThings() {
    int a = any(3) == 0 ? 0 : near(0, 4), b = near(1, any(3) == 0 ? 99 : 30), c = near(1, 9), d = near(-9, 9);
    switch (any(9)) {
      case 7:
      case 0:
      case 1:
      case 2: same(told("stave", a, b, c, d), yard.stave(a, b, c, d), naive.stave(a, b, c, d)); break;
      case 3:
      case 4: {
        int kind = near(0, 3), size = near(1, any(2) == 0 ? 120 : 600), side = near(0, 1);
        same(told("hoop", kind, size, side), yard.hoop(kind, size, side), naive.hoop(kind, size, side));
        break;
      }
      case 8:
      case 5: same(told("board", b), yard.board(b), naive.board(b)); break;
      default: {
        int what = near(0, 2);
        same(told("takes", what), yard.takes(what), naive.takes(what));
      }
    }
    return 1;
  }

  private int rules() {
    int what = near(0, 3);
    int[] low = {10, 0, 0, -20}, high = {500, 50, 20, 20};
    int v = what >= 0 && what <= 3 ? near(low[what], what == 0 && any(2) == 0 ? 150 : high[what]) : any(20);
    same(told("rule", what, v), yard.rule(what, v), naive.rule(what, v));
    for (int k = -1; k < 10; k++) {
      same(told("told", k), yard.told(k), naive.told(k));
    }
    return 12;
  }

  private int staves() {
    int i = near(0, naive.told(4)), what = near(0, 7), sum = near(0, any(2) == 0 ? 200 : 999);
    same(told("ofStave", i, what), yard.ofStave(i, what), naive.ofStave(i, what));
    int width = near(1, 20);
    if (any(6) == 0) {
      same(told("shave", i, width), yard.shave(i, width), naive.shave(i, width));
    }
    int f = near(0, 3);
    same(told("fits", f), yard.fits(f), naive.fits(f));
    same(told("sums", sum), yard.sums(sum), naive.sums(sum));
    same(told("nearest", sum), yard.nearest(sum), naive.nearest(sum));
    return 5;
  }

  /** A set of staves that are there, or near to one. */
  private int set() {
    int many = naive.told(4);
    return any(12) == 0 ? near(0, 511) : any(1 << many) & any(1 << many) | any(1 << many);
  }

  private int ring() {
    if (any(12) == 0) {
      return near(0, 99999999);
    }
    int many = naive.told(4), digits = 0, length = 1 + any(9);
    for (int k = 0; k < length; k++) {
      int digit = 1 + any(many + (any(8) == 0 ? 2 : 0) + (many == 0 ? 1 : 0));
      if (any(10) == 0 || !String.valueOf(digits).contains(String.valueOf(digit))) {
        digits = digits * 10 + digit % 10;
      }
    }
    return digits;
  }

  private int press() {
    return any(2) == 0 ? near(0, 99) : any(20);
  }

  private int rings() {
    int set = set(), p = press(), what = near(0, 1), most = any(3) == 0 ? near(0, 9999) : any(100);
    same(told("least", set, p, what), yard.least(set, p, what), naive.least(set, p, what));
    same(told("rings", set, p, most), yard.rings(set, p, most), naive.rings(set, p, most));
    int ring = any(3) == 0 ? Math.max(0, naive.least(set, p, 1)) : ring(), i = near(0, 7);
    same(told("leak", ring, p), yard.leak(ring, p), naive.leak(ring, p));
    same(told("worst", ring, i, what), yard.worst(ring, i, what), naive.worst(ring, i, what));
    return 4;
  }

  private int hoops() {
    int h = near(0, 8), i = near(0, naive.told(5)), what = near(0, 5);
    same(told("girth", h), yard.girth(h), naive.girth(h));
    same(told("press", h), yard.press(h), naive.press(h));
    same(told("ofHoop", i, what), yard.ofHoop(i, what), naive.ofHoop(i, what));
    int set = set() & (any(6) == 0 ? -1 : 31), most = any(2) == 0 ? near(1, 600) : 1 + any(120);
    same(told("wet", set), yard.wet(set), naive.wet(set));
    same(told("driest", set, most), yard.driest(set, most), naive.driest(set, most));
    return 5;
  }

  private int heads() {
    int r = any(3) == 0 ? near(1, 200) : 1 + any(60), what = near(0, 2);
    same(told("heads", r), yard.heads(r), naive.heads(r));
    same(told("head", r, what), yard.head(r, what), naive.head(r, what));
    int row = any(2) == 0 ? Math.max(0, naive.head(r, 2)) : ring();
    row = any(8) == 0 ? row * 10 + any(8) : row;
    same(told("used", r, row), yard.used(r, row), naive.used(r, row));
    return 3;
  }

  private String number(int low, int high) {
    int v = near(low, high);
    v = v > 9999 ? 9999 : v < -9999 ? -9999 : v;
    String text = Integer.toString(v);
    if (any(6) == 0) {
      text = String.format(v < 0 ? "%05d" : "%04d", v);
    }
    return v == 0 && any(4) == 0 ? "-0" : text;
  }

  private String statement() {
    switch (any(5)) {
      case 0: return "s" + number(0, 4) + "," + number(1, 40) + "," + number(1, 9) + "," + number(-9, 9);
      case 1: return "h" + number(0, 3) + "," + number(1, 150) + "," + number(0, 1);
      case 2: return "b" + number(1, 40);
      case 3: return "g" + number(10, 150);
      default: return "t" + number(0, 20);
    }
  }

  private int text() {
    StringBuilder text = new StringBuilder();
    int many = any(8) == 0 ? 0 : 1 + any(6);
    for (int k = 0; k < many; k++) {
      text.append(k > 0 ? ";" : "").append(statement());
    }
    if (text.length() > 0 && any(3) == 0) {
      int place = any(text.length());
      char other = "shbgt0123456789-,; x".charAt(any(20));
      switch (any(4)) {
        case 0: text.setCharAt(place, other); break;
        case 1: text.insert(place, other); break;
        case 2: text.deleteCharAt(place); break;
        default: text.setLength(place);
      }
    }
    for (int k = 0; k < text.length(); k++) {
      same(told("feed", text.charAt(k)), yard.feed(text.charAt(k)), naive.feed(text.charAt(k)));
    }
    int odd = near(0, 127);
    if (any(6) == 0) {
      same(told("feed", odd), yard.feed(odd), naive.feed(odd));
    }
    same("read() of " + text, yard.read(), naive.read());
    return text.length() + 2;
  }

  private int images() {
    if (any(3) == 0) {
      same("image()", yard.image(), naive.image());
    } else {
      same("undo()", yard.undo(), naive.undo());
    }
    int boards = naive.told(6);
    for (int k = 0; k < boards; k++) {
      same(told("hang", 5, 2, k), yard.hang(5, 2, k), naive.hang(5, 2, k));
      same(told("as", 5, 2, 0), yard.as(5, 2, 0), naive.as(5, 2, 0));
    }
    return 1 + 2 * boards;
  }

  private int pegs() {
    int high = any(6) == 0 ? 5 : 1, peg = near(0, high), other = any(3) == 0 ? peg : near(0, high);
    int i = any(3) == 0 ? near(0, 30) : any(8);
    switch (any(11)) {
      case 0: {
        int what = near(0, any(6) == 0 ? 3 : 2), k = near(0, any(3));
        same(told("hang", peg, what, k), yard.hang(peg, what, k), naive.hang(peg, what, k));
        break;
      }
      case 9:
      case 10:
      case 1: {
        int sort = any(4) == 0 ? near(0, 1) : 0, n = near(0, any(2) == 0 ? 30 : 11);
        same(told("tray", peg, sort, n), yard.tray(peg, sort, n), naive.tray(peg, sort, n));
        break;
      }
      case 2: {
        int what = near(0, 2), kind = what == 2 ? near(0, 0) : near(0, 4);
        same(told("as", peg, what, kind), yard.as(peg, what, kind), naive.as(peg, what, kind));
        break;
      }
      case 3:
      case 4: {
        long v = any(3) == 0 ? seed : any(300) - 150;
        same(told("put", peg, i) + " of " + v, yard.put(peg, i, v), naive.put(peg, i, v));
        break;
      }
      case 5: {
        int set = set(), p = press();
        same(told("fill", peg, set, p), yard.fill(peg, set, p), naive.fill(peg, set, p));
        same(told("judge", peg, set, p), yard.judge(peg, set, p), naive.judge(peg, set, p));
        break;
      }
      case 6: {
        int set = set(), p = press();
        same(told("judge", peg, set, p), yard.judge(peg, set, p), naive.judge(peg, set, p));
        break;
      }
      default: {
        int j = near(0, 8), n = any(4) == 0 ? near(0, 30) : any(9);
        if (any(4) == 0) {
          n = any(2) == 0 ? Integer.MAX_VALUE - any(40) : n;
          i = any(2) == 0 ? 30 - any(31) : i;
        }
        same(told("move", peg, i, other, j, n), yard.move(peg, i, other, j, n), naive.move(peg, i, other, j, n));
      }
    }
    for (int k = 0; k < 6; k++) {
      same(told("held", k), yard.held(k), naive.held(k));
    }
    int hung = near(0, 5), what = any(3);
    same(told("as", hung, what, 0), yard.as(hung, what, 0), naive.as(hung, what, 0));
    for (int k = 0; k < 9; k++) {
      same(told("get", other, k), yard.get(other, k), naive.get(other, k));
    }
    same(told("get", peg, i), yard.get(peg, i), naive.get(peg, i));
    return 18;
  }
}
