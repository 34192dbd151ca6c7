import java.util.ArrayList;
import java.util.List;
import java.util.regex.Matcher;
import java.util.regex.Pattern;

/**
 * The document once more, as plainly as can be and by other ways than HoopYard's: every set, every ring, every row is
 * laid out, kinds are classes, things are shared by Java's own references. For tests only.
 */
final class NaiveYard {
  static final int NONE = -1, BAD = -2, STATE = -3, FULL = -4, NOT = -5;
  static final int EMPTY = -11, OUTSIDE = -12, OTHER = -13, SIZE = -14;
  private static final Pattern NUMBER = Pattern.compile("-?[0-9]{1,4}");
  private static final Pattern TEXT;

  static {
    String n = NUMBER.pattern();
    String statement = "(?:s#,#,#,#|h#,#,#|b#|g#|t#)".replace("#", n);
    TEXT = Pattern.compile(statement + "(?:;" + statement + ")*");
  }

  static class Stave implements Cloneable {
    int kind, width, thick, bevel;

    static Stave of(int kind, int width, int thick, int bevel) {
      Stave made = kind == 0 ? new Stave() : kind == 1 ? new Sawn() : kind == 2 ? new Cleft()
          : kind == 3 ? new Bung() : new Thin();
      made.kind = kind;
      made.width = width;
      made.thick = thick;
      made.bevel = bevel;
      return made;
    }

    Stave copy() {
      return of(kind, width, thick, bevel);
    }

    int counts() {
      return width;
    }

    int edge() {
      return bevel;
    }

    int price() {
      return width * thick;
    }
  }

  static class Sawn extends Stave {
    int counts() {
      return super.counts() - 1 < 1 ? 1 : super.counts() - 1;
    }

    int price() {
      return super.price() / 2;
    }
  }

  static class Cleft extends Stave {
    int edge() {
      return super.edge() + 1;
    }
  }

  static final class Bung extends Cleft {
    int counts() {
      return super.counts() + 2;
    }

    int price() {
      return super.price() + 7;
    }
  }

  static final class Thin extends Sawn {
    int counts() {
      return super.counts() / 2 < 1 ? 1 : super.counts() / 2;
    }

    int edge() {
      return super.edge() - 2;
    }
  }

  static class Hoop {
    int kind, size, side;

    static Hoop of(int kind, int size, int side) {
      Hoop made = kind == 0 ? new Hoop() : kind == 1 ? new Wire() : kind == 2 ? new Rope() : new Double();
      made.kind = kind;
      made.size = size;
      made.side = side;
      return made;
    }

    int presses(int grip) {
      return grip;
    }
  }

  static class Wire extends Hoop {
    int presses(int grip) {
      return 2 * super.presses(grip);
    }
  }

  static final class Rope extends Hoop {
    int presses(int grip) {
      return super.presses(grip) / 2;
    }
  }

  static final class Double extends Wire {
    int presses(int grip) {
      return super.presses(grip) + 3;
    }
  }

  static final class Board {
    int width;

    Board(int width) {
      this.width = width;
    }
  }

  private List<Stave> staves = new ArrayList<>(), keptStaves;
  private List<Hoop> hoops = new ArrayList<>(), keptHoops;
  private List<Board> boards = new ArrayList<>(), keptBoards;
  private int girth = 100, slack = 4, taper = 3, need = 2;
  private int[] keptRules;
  private StringBuilder tape = new StringBuilder();
  private int texts = 0;
  private final Object[] pegs = new Object[6];

  private static boolean in(long v, long low, long high) {
    return low <= v && v <= high;
  }

  private static boolean staveOk(int k, int w, int t, int b) {
    return in(k, 0, 4) && in(w, 1, 99) && in(t, 1, 9) && in(b, -9, 9);
  }

  private static boolean hoopOk(int k, int size, int side) {
    return in(k, 0, 3) && in(size, 1, 600) && in(side, 0, 1);
  }

  int stave(int kind, int width, int thick, int bevel) {
    if (!staveOk(kind, width, thick, bevel)) return BAD;
    if (staves.size() == 9) return FULL;
    staves.add(Stave.of(kind, width, thick, bevel));
    return staves.size() - 1;
  }

  int hoop(int kind, int size, int side) {
    if (!hoopOk(kind, size, side)) return BAD;
    if (hoops.size() == 6) return FULL;
    hoops.add(Hoop.of(kind, size, side));
    return hoops.size() - 1;
  }

  int board(int width) {
    if (!in(width, 1, 99)) return BAD;
    if (boards.size() == 7) return FULL;
    boards.add(new Board(width));
    return boards.size() - 1;
  }

  int rule(int what, int v) {
    if (what == 0) { if (!in(v, 10, 500)) return BAD; girth = v; return 1; }
    if (what == 1) { if (!in(v, 0, 50)) return BAD; slack = v; return 1; }
    if (what == 2) { if (!in(v, 0, 20)) return BAD; taper = v; return 1; }
    if (what == 3) { if (!in(v, -20, 20)) return BAD; need = v; return 1; }
    return NONE;
  }

  int told(int what) {
    int[] all = {girth, slack, taper, need + 100, staves.size(), hoops.size(), boards.size(), tape.length(), texts};
    return in(what, 0, 8) ? all[what] : NONE;
  }

  private static int root(int n) {
    int root = 0;
    while ((root + 1) * (root + 1) <= n) root++;
    return root;
  }

  int ofStave(int i, int what) {
    if (!in(i, 0, staves.size() - 1) || !in(what, 0, 7)) return NONE;
    Stave s = staves.get(i);
    int d = 2 * (113 * girth / 710);
    int c = s.counts();
    int sag = c > d ? NOT : (d - root(d * d - c * c)) / 2;
    return new int[] {s.kind, s.width, s.thick, s.bevel + 100, c, s.edge() + 100, s.price(), sag}[what];
  }

  int takes(int what) {
    if (!in(what, 0, 2)) return BAD;
    List<?> list = what == 0 ? staves : what == 1 ? hoops : boards;
    if (list.isEmpty()) return STATE;
    list.remove(list.size() - 1);
    return list.size();
  }

  int shave(int i, int width) {
    if (!in(i, 0, staves.size() - 1)) return NONE;
    Stave s = staves.get(i);
    if (!in(width, 1, s.width)) return BAD;
    int was = s.width;
    s.width = width;
    return was;
  }

  /** Counts, price, staves, bits of a set. */
  private int[] together(int set) {
    int[] all = {0, 0, 0, set};
    for (int i = 0; i < staves.size(); i++) {
      if ((set & 1 << i) != 0) {
        all[0] += staves.get(i).counts();
        all[1] += staves.get(i).price();
        all[2]++;
      }
    }
    return all;
  }

  private List<int[]> sets() {
    List<int[]> all = new ArrayList<>();
    for (int set = 0; set < 1 << staves.size(); set++) all.add(together(set));
    return all;
  }

  int fits(int what) {
    if (!in(what, 0, 3)) return BAD;
    List<int[]> fit = new ArrayList<>();
    for (int[] one : sets()) if (one[2] > 0 && in(one[0], girth, girth + slack)) fit.add(one);
    if (what == 0) return fit.size();
    if (fit.isEmpty()) return NOT;
    fit.sort(java.util.Arrays::compare);
    return fit.get(0)[what == 1 ? 3 : what - 2];
  }

  int sums(int sum) {
    if (!in(sum, 0, 999)) return BAD;
    int many = 0;
    for (int[] one : sets()) if (one[0] == sum) many++;
    return many;
  }

  int nearest(int sum) {
    if (!in(sum, 0, 999)) return BAD;
    if (staves.isEmpty()) return STATE;
    for (int off = 0; ; off++) {
      for (int[] one : sets()) if (one[2] > 0 && one[0] == sum - off) return sum - off;
      for (int[] one : sets()) if (one[2] > 0 && one[0] == sum + off) return sum + off;
    }
  }

  private boolean setOk(int set) {
    return set > 0 && set < 1 << staves.size() && Integer.bitCount(set) <= 8;
  }

  private boolean ringOk(int ring) {
    if (ring <= 0) return false;
    String digits = Integer.toString(ring);
    if (digits.length() > 8) return false;
    for (char c : digits.toCharArray()) {
      if (c == '0' || c - '0' > staves.size() || digits.indexOf(c) != digits.lastIndexOf(c)) return false;
      if (c < digits.charAt(0)) return false;
    }
    return true;
  }

  /** The rings of a set, the least digits first. */
  private List<Integer> ringsOf(int set) {
    List<Integer> all = new ArrayList<>();
    String first = Integer.toString(Integer.numberOfTrailingZeros(set) + 1);
    lay(first, set & set - 1, all);
    return all;
  }

  private void lay(String ahead, int left, List<Integer> all) {
    if (left == 0) all.add(Integer.valueOf(ahead));
    for (int i = 0; i < 9; i++) if ((left & 1 << i) != 0) lay(ahead + (i + 1), left & ~(1 << i), all);
  }

  private int[] gaps(int ring) {
    String digits = Integer.toString(ring);
    int[] gaps = new int[digits.length()];
    for (int k = 0; k < gaps.length; k++) {
      Stave one = staves.get(digits.charAt(k) - '1');
      Stave next = staves.get(digits.charAt((k + 1) % gaps.length) - '1');
      gaps[k] = Math.abs(one.edge() + next.edge() - need);
    }
    return gaps;
  }

  private int leakOf(int ring, int p) {
    int leak = 0;
    for (int gap : gaps(ring)) leak += gap > p ? gap - p : 0;
    return leak;
  }

  private int leastRing(int set, int p) {
    int best = 0, least = Integer.MAX_VALUE;
    for (int ring : ringsOf(set)) {
      int leak = leakOf(ring, p);
      if (leak < least) { least = leak; best = ring; }
    }
    return best;
  }

  int least(int set, int p, int what) {
    if (!setOk(set) || !in(p, 0, 99) || !in(what, 0, 1)) return BAD;
    int ring = leastRing(set, p);
    return what == 0 ? leakOf(ring, p) : ring;
  }

  int leak(int ring, int p) {
    return ringOk(ring) && in(p, 0, 99) ? leakOf(ring, p) : BAD;
  }

  int worst(int ring, int i, int what) {
    if (!ringOk(ring) || !in(what, 0, 1)) return BAD;
    int[] gaps = gaps(ring);
    if (!in(i, 0, gaps.length - 1)) return NONE;
    List<Integer> joints = new ArrayList<>();
    for (int k = 0; k < gaps.length; k++) joints.add(k);
    joints.sort((a, b) -> gaps[b] - gaps[a]);
    return what == 0 ? joints.get(i) : gaps[joints.get(i)];
  }

  int rings(int set, int p, int most) {
    if (!setOk(set) || !in(p, 0, 99) || !in(most, 0, 9999)) return BAD;
    int many = 0;
    for (int ring : ringsOf(set)) if (leakOf(ring, p) <= most) many++;
    return many;
  }

  int girth(int h) {
    if (!in(h, 0, 8)) return NONE;
    int g = girth;
    for (int at = h; at < 4; at++) g -= taper;
    for (int at = h; at > 4; at--) g -= taper;
    return g < 1 ? 1 : g;
  }

  /** Where each of some hoops rests: a hoop walks from its own end on. */
  private Integer[] rests(List<Hoop> all) {
    Integer[] rests = new Integer[all.size()];
    for (int i = 0; i < rests.length; i++) {
      Hoop hoop = all.get(i);
      int step = hoop.side == 0 ? 1 : -1;
      int h = hoop.side == 0 ? 0 : 8;
      while (true) {
        boolean stopped = girth(h) >= hoop.size;
        for (int k = 0; k < i; k++) {
          if (all.get(k).side == hoop.side && rests[k] != null && rests[k] == h) stopped = true;
        }
        if (stopped) { rests[i] = h; break; }
        if (h == 4) break;
        h += step;
      }
    }
    return rests;
  }

  private int grip(Hoop hoop, int h) {
    return Math.max(0, girth(h) - hoop.size);
  }

  int ofHoop(int i, int what) {
    if (!in(i, 0, hoops.size() - 1) || !in(what, 0, 5)) return NONE;
    Hoop hoop = hoops.get(i);
    if (what < 3) return new int[] {hoop.kind, hoop.size, hoop.side}[what];
    Integer rest = rests(hoops)[i];
    if (rest == null) return NOT;
    return what == 3 ? rest : what == 4 ? grip(hoop, rest) : hoop.presses(grip(hoop, rest));
  }

  private int pressOf(List<Hoop> all, Integer[] rests, int h) {
    int sum = 0;
    for (int i = 0; i < rests.length; i++) {
      if (rests[i] == null) continue;
      Hoop hoop = all.get(i);
      sum += Math.max(0, hoop.presses(grip(hoop, rests[i])) - 2 * Math.abs(h - rests[i]));
    }
    return Math.min(sum, 99);
  }

  int press(int h) {
    return in(h, 0, 8) ? pressOf(hoops, rests(hoops), h) : NONE;
  }

  /** For every press whether the least ring of a set leaks under it. */
  private boolean[] leaks(int set) {
    List<Integer> rings = ringsOf(set);
    boolean[] leaks = new boolean[100];
    for (int p = 0; p < 100; p++) {
      leaks[p] = true;
      for (int ring : rings) {
        if (leakOf(ring, p) == 0) { leaks[p] = false; break; }
      }
    }
    return leaks;
  }

  private int wetUnder(List<Hoop> all, boolean[] leaks) {
    Integer[] rests = rests(all);
    int wet = 0;
    for (int h = 0; h < 9; h++) if (leaks[pressOf(all, rests, h)]) wet += 1 << h;
    return wet;
  }

  int wet(int set) {
    return setOk(set) ? wetUnder(hoops, leaks(set)) : BAD;
  }

  int driest(int set, int most) {
    if (!setOk(set) || !in(most, 1, 600)) return BAD;
    if (hoops.size() == 6) return FULL;
    boolean[] leaks = leaks(set);
    int fewest = Integer.bitCount(wetUnder(hoops, leaks)), best = NOT;
    for (int size = 1; size <= most; size++) {
      List<Hoop> more = new ArrayList<>(hoops);
      more.add(Hoop.of(0, size, 0));
      int wet = Integer.bitCount(wetUnder(more, leaks));
      if (wet < fewest) { fewest = wet; best = size; }
    }
    return best;
  }

  /** USED of a row of boards; -1 if it is no head. */
  private int usedBy(int r, String row) {
    int s = 0, used = 0;
    for (char c : row.toCharArray()) {
      if (s >= 2 * r) return -1;
      int w = boards.get(c - '1').width;
      int off = Integer.MAX_VALUE;
      for (int at = s; at <= s + w; at++) off = Math.min(off, Math.abs(at - r));
      int square = r * r - off * off, root = 0;
      while (root * root < square) root++;
      used += w * 2 * root;
      s += w;
    }
    return s >= 2 * r ? used : -1;
  }

  private void rows(int r, String ahead, int s, List<String> all) {
    if (s >= 2 * r) { all.add(ahead); return; }
    for (int i = 0; i < boards.size(); i++) {
      if (ahead.indexOf('1' + i) < 0) rows(r, ahead + (i + 1), s + boards.get(i).width, all);
    }
  }

  private List<String> headsOf(int r) {
    List<String> all = new ArrayList<>();
    rows(r, "", 0, all);
    return all;
  }

  int head(int r, int what) {
    if (!in(r, 1, 200) || !in(what, 0, 2)) return BAD;
    String best = null;
    for (String row : headsOf(r)) if (best == null || usedBy(r, row) < usedBy(r, best)) best = row;
    if (best == null) return NOT;
    return what == 0 ? usedBy(r, best) : what == 1 ? best.length() : Integer.parseInt(best);
  }

  int used(int r, int row) {
    if (!in(r, 1, 200) || row <= 0) return BAD;
    String digits = Integer.toString(row);
    for (char c : digits.toCharArray()) {
      if (c == '0' || c - '0' > boards.size() || digits.indexOf(c) != digits.lastIndexOf(c)) return BAD;
    }
    int used = usedBy(r, digits);
    return used < 0 ? BAD : used;
  }

  int heads(int r) {
    return in(r, 1, 200) ? headsOf(r).size() : BAD;
  }

  int feed(int letter) {
    if (!in(letter, 0, 127)) return BAD;
    if (tape.length() == 80) return FULL;
    tape.append((char) letter);
    return tape.length();
  }

  private static boolean begins(String ahead) {
    Matcher matcher = TEXT.matcher(ahead);
    return matcher.matches() || matcher.hitEnd();
  }

  int read() {
    String text = tape.toString();
    tape.setLength(0);
    if (!TEXT.matcher(text).matches()) {
      for (int k = 0; k < text.length(); k++) if (!begins(text.substring(0, k + 1))) return -100 - k;
      return -100 - text.length();
    }
    int[] rules = {girth, slack, taper, need};
    int s = staves.size(), h = hoops.size(), b = boards.size();
    String[] statements = text.split(";");
    int place = 0;
    for (String statement : statements) {
      if (!doIt(statement)) {
        while (staves.size() > s) staves.remove(s);
        while (hoops.size() > h) hoops.remove(h);
        while (boards.size() > b) boards.remove(b);
        girth = rules[0];
        taper = rules[2];
        return -300 - place;
      }
      place += statement.length() + 1;
    }
    texts++;
    return statements.length;
  }

  private boolean doIt(String statement) {
    List<Integer> v = new ArrayList<>();
    for (String n : statement.substring(1).split(",")) v.add(Integer.valueOf(n));
    switch (statement.charAt(0)) {
      case 's': return stave(v.get(0), v.get(1), v.get(2), v.get(3)) >= 0;
      case 'h': return hoop(v.get(0), v.get(1), v.get(2)) >= 0;
      case 'b': return board(v.get(0)) >= 0;
      case 'g': return rule(0, v.get(0)) >= 0;
      default: return rule(2, v.get(0)) >= 0;
    }
  }

  int hang(int peg, int what, int i) {
    if (!in(peg, 0, 5)) return NONE;
    if (!in(what, 0, 3)) return BAD;
    if (what == 3) { pegs[peg] = null; return 1; }
    List<?> list = what == 0 ? staves : what == 1 ? hoops : boards;
    if (!in(i, 0, list.size() - 1)) return NONE;
    pegs[peg] = list.get(i);
    return 1;
  }

  int tray(int peg, int sort, int n) {
    if (!in(peg, 0, 5)) return NONE;
    if (!in(sort, 0, 1) || n > 30) return BAD;
    if (n < 0) return SIZE;
    pegs[peg] = sort == 0 ? new byte[n] : new long[n];
    return 1;
  }

  int held(int peg) {
    if (!in(peg, 0, 5)) return NONE;
    Object o = pegs[peg];
    if (o == null) return 0;
    return o instanceof Stave ? 1 : o instanceof Hoop ? 2 : o instanceof Board ? 3 : o instanceof byte[] ? 4 : 5;
  }

  private static final Class<?>[] STAVE_KINDS = {Stave.class, Sawn.class, Cleft.class, Bung.class, Thin.class};
  private static final Class<?>[] HOOP_KINDS = {Hoop.class, Wire.class, Rope.class, Double.class};

  int as(int peg, int what, int kind) {
    if (!in(peg, 0, 5)) return NONE;
    if (!in(what, 0, 2)) return BAD;
    Class<?>[] kinds = what == 0 ? STAVE_KINDS : what == 1 ? HOOP_KINDS : new Class<?>[] {Board.class};
    if (!in(kind, 0, kinds.length - 1)) return BAD;
    Object o = pegs[peg];
    if (o == null) return EMPTY;
    if (!kinds[kind].isInstance(o)) return OTHER;
    return o instanceof Stave s ? s.width : o instanceof Hoop h ? h.size : ((Board) o).width;
  }

  private boolean isTray(int peg) {
    return pegs[peg] instanceof byte[] || pegs[peg] instanceof long[];
  }

  private int length(int peg) {
    return java.lang.reflect.Array.getLength(pegs[peg]);
  }

  int put(int peg, int i, long v) {
    if (!in(peg, 0, 5)) return NONE;
    if (pegs[peg] == null) return EMPTY;
    if (!isTray(peg)) return OTHER;
    if (!in(i, 0, length(peg) - 1)) return OUTSIDE;
    if (pegs[peg] instanceof byte[] b) b[i] = (byte) v;
    if (pegs[peg] instanceof long[] l) l[i] = v;
    return 1;
  }

  long get(int peg, int i) {
    if (!in(peg, 0, 5) || pegs[peg] == null || !isTray(peg) || !in(i, 0, length(peg) - 1)) return Long.MIN_VALUE;
    return java.lang.reflect.Array.getLong(pegs[peg], i);
  }

  int fill(int peg, int set, int p) {
    int lack = lack(peg, set, p);
    if (lack != 0) return lack;
    int[] gaps = gaps(leastRing(set, p));
    int many = 0;
    while (many < gaps.length && put(peg, many, gaps[many]) == 1) many++;
    return many;
  }

  private int lack(int peg, int set, int p) {
    if (!in(peg, 0, 5)) return NONE;
    if (!setOk(set) || !in(p, 0, 99)) return BAD;
    if (pegs[peg] == null) return EMPTY;
    return isTray(peg) ? 0 : OTHER;
  }

  int judge(int peg, int set, int p) {
    int lack = lack(peg, set, p);
    if (lack != 0) return lack;
    int[] gaps = gaps(leastRing(set, p));
    for (int i = 0; i < length(peg); i++) if (i >= gaps.length || get(peg, i) != gaps[i]) return i;
    return NOT;
  }

  int move(int peg, int i, int other, int j, int n) {
    if (!in(peg, 0, 5) || !in(other, 0, 5)) return NONE;
    if (pegs[peg] == null || pegs[other] == null) return EMPTY;
    if (!isTray(peg) || !isTray(other) || pegs[peg].getClass() != pegs[other].getClass()) return OTHER;
    if (n < 0 || i < 0 || j < 0 || (long) i + n > length(peg) || (long) j + n > length(other)) return OUTSIDE;
    long[] before = new long[n];
    for (int k = 0; k < n; k++) before[k] = get(peg, i + k);
    for (int k = 0; k < n; k++) put(other, j + k, before[k]);
    return n;
  }

  private static List<Stave> copies(List<Stave> all) {
    List<Stave> copies = new ArrayList<>();
    for (Stave s : all) copies.add(s.copy());
    return copies;
  }

  int image() {
    keptStaves = copies(staves);
    keptHoops = new ArrayList<>(hoops);
    keptBoards = new ArrayList<>(boards);
    keptRules = new int[] {girth, slack, taper, need};
    return staves.size();
  }

  int undo() {
    if (keptRules == null) return STATE;
    staves = copies(keptStaves);
    hoops = new ArrayList<>(keptHoops);
    boards = new ArrayList<>(keptBoards);
    girth = keptRules[0];
    slack = keptRules[1];
    taper = keptRules[2];
    need = keptRules[3];
    return staves.size();
  }
}
