/** Promises 27 to 35: pegs and trays. */
public final class PegsTest {
  private static final int EMPTY = -11, OUTSIDE = -12, OTHER = -13, SIZE = -14;
  private static final Due due = new Due("PegsTest");

  public static void main(String[] args) {
    hang();
    staysTheSame();
    tray();
    as();
    putAndGet();
    fillAndJudge();
    lacksOfFill();
    move();
    due.end();
  }

  private static HoopYard stocked() {
    HoopYard y = new HoopYard();
    for (int kind = 0; kind < 5; kind++) {
      y.stave(kind, 10 + kind, 1, 0);
    }
    for (int kind = 0; kind < 4; kind++) {
      y.hoop(kind, 100 + kind, 0);
    }
    y.board(77);
    return y;
  }

  private static long[] items(HoopYard y, int peg, int many) {
    long[] items = new long[many];
    for (int i = 0; i < many; i++) {
      items[i] = y.get(peg, i);
    }
    return items;
  }

  private static void hang() {
    HoopYard y = stocked();
    due.is("a stave", y.hang(0, 0, 4), 1);
    due.is("a hoop", y.hang(1, 1, 3), 1);
    due.is("a board", y.hang(5, 2, 0), 1);
    due.is("held(0)", y.held(0), 1);
    due.is("held(1)", y.held(1), 2);
    due.is("held(5)", y.held(5), 3);
    due.is("held(2)", y.held(2), 0);
    due.is("held(-1)", y.held(-1), HoopYard.NONE);
    due.is("held(6)", y.held(6), HoopYard.NONE);
    due.is("no peg", y.hang(6, 9, 9), HoopYard.NONE);
    due.is("no peg", y.hang(-1, 0, 0), HoopYard.NONE);
    due.is("no what", y.hang(0, 4, 99), HoopYard.BAD);
    due.is("no what", y.hang(0, -1, 0), HoopYard.BAD);
    due.is("no stave", y.hang(0, 0, 5), HoopYard.NONE);
    due.is("no stave", y.hang(0, 0, -1), HoopYard.NONE);
    due.is("no hoop", y.hang(0, 1, 4), HoopYard.NONE);
    due.is("no board", y.hang(0, 2, 1), HoopYard.NONE);
    due.is("no board", y.hang(0, 2, -1), HoopYard.NONE);
    due.is("no board", y.hang(0, 2, 7), HoopYard.NONE);
    due.is("no hoop", y.hang(0, 1, -1), HoopYard.NONE);
    due.is("still there", y.held(0), 1);
    due.is("another thing in its place", y.hang(0, 1, 0), 1);
    due.is("held(0)", y.held(0), 2);
    due.is("nothing, whatever i is", y.hang(0, 3, -77), 1);
    due.is("held(0)", y.held(0), 0);
    due.is("nothing once more", y.hang(0, 3, 0), 1);
  }

  private static void staysTheSame() {
    HoopYard y = stocked();
    y.hang(0, 0, 4);
    y.hang(1, 0, 4);
    y.hang(2, 1, 3);
    y.hang(3, 2, 0);
    due.is("shave", y.shave(4, 6), 14);
    due.is("the thing itself is told", y.as(0, 0, 0), 6);
    due.is("on both pegs", y.as(1, 0, 4), 6);
    y.takes(0);
    y.takes(1);
    y.takes(2);
    due.is("hang a stave that is none", y.hang(5, 0, 4), HoopYard.NONE);
    due.is("hang a hoop that is none", y.hang(5, 1, 3), HoopYard.NONE);
    due.is("hang a board that is none", y.hang(5, 2, 0), HoopYard.NONE);
    due.is("a stave that is none of the yard", y.as(0, 0, 4), 6);
    due.is("a hoop that is none", y.as(2, 1, 3), 103);
    due.is("a board that is none", y.as(3, 2, 0), 77);
    y.stave(4, 50, 1, 0);
    due.is("another one of its number", y.as(0, 0, 4), 6);
    y.shave(4, 5);
    due.is("that is shaved", y.as(0, 0, 4), 6);
  }

  private static void tray() {
    HoopYard y = stocked();
    due.is("bytes", y.tray(0, 0, 30), 1);
    due.is("longs", y.tray(1, 1, 0), 1);
    due.is("held(0)", y.held(0), 4);
    due.is("held(1)", y.held(1), 5);
    due.is("no peg", y.tray(6, 9, -1), HoopYard.NONE);
    due.is("no peg", y.tray(-1, 0, 1), HoopYard.NONE);
    due.is("no sort", y.tray(0, 2, 1), HoopYard.BAD);
    due.is("no sort, below 0", y.tray(0, -1, -1), HoopYard.BAD);
    due.is("31", y.tray(0, 0, 31), HoopYard.BAD);
    due.is("very many", y.tray(0, 1, Integer.MAX_VALUE), HoopYard.BAD);
    due.is("-1", y.tray(0, 0, -1), SIZE);
    due.is("very few", y.tray(0, 1, Integer.MIN_VALUE), SIZE);
    due.is("still there", y.get(0, 29), 0);
    due.is("30 items", y.get(0, 30), HoopYard.NO);
    due.is("0 items", y.get(1, 0), HoopYard.NO);
    y.put(0, 3, 5);
    y.tray(0, 0, 4);
    due.are("all 0 again", items(y, 0, 5), 0, 0, 0, 0, HoopYard.NO);
    y.hang(2, 0, 0);
    due.is("in a stave's place", y.tray(2, 1, 1), 1);
    due.is("held(2)", y.held(2), 5);
  }

  private static void as() {
    HoopYard y = stocked();
    boolean[][] staves = {{true, false, false, false, false}, {true, true, false, false, false},
      {true, false, true, false, false}, {true, false, true, true, false}, {true, true, false, false, true}};
    for (int i = 0; i < 5; i++) {
      y.hang(0, 0, i);
      for (int kind = 0; kind < 5; kind++) {
        due.is("stave " + i + " as " + kind, y.as(0, 0, kind), staves[i][kind] ? 10 + i : OTHER);
      }
      for (int kind = 0; kind < 4; kind++) {
        due.is("stave " + i + " as a hoop", y.as(0, 1, kind), OTHER);
      }
      due.is("stave " + i + " as a board", y.as(0, 2, 0), OTHER);
    }
    boolean[][] hoops = {{true, false, false, false}, {true, true, false, false}, {true, false, true, false},
      {true, true, false, true}};
    for (int i = 0; i < 4; i++) {
      y.hang(1, 1, i);
      for (int kind = 0; kind < 4; kind++) {
        due.is("hoop " + i + " as " + kind, y.as(1, 1, kind), hoops[i][kind] ? 100 + i : OTHER);
        due.is("hoop " + i + " as a stave", y.as(1, 0, kind), OTHER);
      }
      due.is("hoop " + i + " as a board", y.as(1, 2, 0), OTHER);
    }
    y.hang(2, 2, 0);
    due.is("board", y.as(2, 2, 0), 77);
    due.is("board as a stave", y.as(2, 0, 0), OTHER);
    due.is("board as a hoop", y.as(2, 1, 0), OTHER);
    y.tray(3, 0, 3);
    due.is("tray as a stave", y.as(3, 0, 0), OTHER);
    due.is("tray as a board", y.as(3, 2, 0), OTHER);
    int[][] bad = {{-1, 0}, {3, 0}, {0, -1}, {0, 5}, {1, -1}, {1, 4}, {2, -1}, {2, 1}};
    for (int[] b : bad) {
      due.is("as(0, " + b[0] + ", " + b[1] + ")", y.as(0, b[0], b[1]), HoopYard.BAD);
      due.is("of an empty one", y.as(5, b[0], b[1]), HoopYard.BAD);
      due.is("of none", y.as(6, b[0], b[1]), HoopYard.NONE);
    }
    due.is("empty", y.as(5, 0, 0), EMPTY);
    due.is("empty", y.as(5, 2, 0), EMPTY);
  }

  private static void putAndGet() {
    HoopYard y = stocked();
    y.tray(0, 0, 3);
    y.tray(1, 1, 3);
    y.hang(2, 0, 0);
    long[] laid = {5, 127, 128, 200, 255, 256, 300, -1, -128, -129, Long.MAX_VALUE, Long.MIN_VALUE};
    // a Java byte: of its 8 bits the highest makes it negative
    long[] asByte = {5, 127, -128, -56, -1, 0, 44, -1, -128, 127, -1, 0};
    for (int k = 0; k < laid.length; k++) {
      due.is("put a byte", y.put(0, k % 3, laid[k]), 1);
      due.is("the byte of " + laid[k], y.get(0, k % 3), asByte[k]);
      due.is("put a long", y.put(1, k % 3, laid[k]), 1);
      due.is("the long " + laid[k], y.get(1, k % 3), laid[k]);
    }
    int[] outside = {-1, 3, Integer.MIN_VALUE, Integer.MAX_VALUE};
    for (int i : outside) {
      due.is("put at " + i, y.put(0, i, 1), OUTSIDE);
      due.is("get at " + i, y.get(0, i), HoopYard.NO);
    }
    due.is("put into a stave", y.put(2, 99, 1), OTHER);
    due.is("put into nothing", y.put(3, 99, 1), EMPTY);
    due.is("put into no peg", y.put(6, 0, 1), HoopYard.NONE);
    due.is("put into no peg", y.put(-1, 0, 1), HoopYard.NONE);
    due.is("get of a stave", y.get(2, 0), HoopYard.NO);
    due.is("get of nothing", y.get(3, 0), HoopYard.NO);
    due.is("get of no peg", y.get(6, 0), HoopYard.NO);
    due.is("get of no peg", y.get(-1, 0), HoopYard.NO);
  }

  /** The LEAST RING of all four is 1243 under 0 to 4, its gaps are 3 4 0 1 by place; 1234 from 5 on. */
  private static HoopYard ringed() {
    HoopYard y = new HoopYard();
    int[] bevels = {0, 5, 1, -3};
    for (int bevel : bevels) {
      y.stave(0, 10, 1, bevel);
    }
    return y;
  }

  private static void fillAndJudge() {
    HoopYard y = ringed();
    y.tray(0, 0, 6);
    y.tray(1, 1, 3);
    y.tray(2, 1, 4);
    y.tray(3, 0, 0);
    y.put(0, 4, 9);
    due.is("more room", y.fill(0, 15, 0), 4);
    due.are("gaps, not less p, and what was there", items(y, 0, 6), 3, 0, 4, 1, 9, 0);
    due.is("less room", y.fill(1, 15, 2), 3);
    due.are("as many as there is room", items(y, 1, 4), 3, 0, 4, HoopYard.NO);
    due.is("no room", y.fill(3, 15, 0), 0);
    due.is("just enough", y.fill(2, 15, 4), 4);
    due.are("all of them", items(y, 2, 4), 3, 0, 4, 1);
    due.is("judge: beyond all", y.judge(0, 15, 0), 4);
    due.is("judge: all are so, as many as there are", y.judge(1, 15, 0), HoopYard.NOT);
    due.is("judge: all are so", y.judge(2, 15, 0), HoopYard.NOT);
    due.is("judge: none there", y.judge(3, 15, 0), HoopYard.NOT);
    due.is("judge of another ring: 1234, gaps 3 4 4 5", y.judge(2, 15, 5), 1);
    y.put(2, 2, 3);
    due.is("judge: the third", y.judge(2, 15, 0), 2);
    y.put(2, 0, 259);
    due.is("a long is not cut", y.judge(2, 15, 0), 0);
    y.put(0, 0, 259);
    due.is("a byte is", y.judge(0, 15, 0), 4);
    due.is("of one", y.fill(2, 8, 0), 1);
    due.are("its joint with itself", items(y, 2, 4), 8, 0, 3, 1);
    due.is("of two", y.fill(2, 3, 0), 2);
    due.are("two joints", items(y, 2, 4), 3, 3, 3, 1);
    due.is("judge of two: beyond", y.judge(2, 3, 0), 2);
    y.put(2, 2, 0);
    y.put(2, 3, 1);
    y.least(15, 0, 0);
    due.is("judge of two: beyond, though a longer ring went ahead", y.judge(2, 3, 0), 2);
  }

  private static void lacksOfFill() {
    HoopYard y = ringed();
    y.hang(1, 0, 0);
    y.tray(0, 1, 4);
    int[][] bad = {{0, 0}, {16, 0}, {-1, 0}, {15, -1}, {15, 100}};
    for (int[] b : bad) {
      for (int peg = 0; peg < 3; peg++) {
        due.is("fill, bad", y.fill(peg, b[0], b[1]), HoopYard.BAD);
        due.is("judge, bad", y.judge(peg, b[0], b[1]), HoopYard.BAD);
      }
      due.is("fill, no peg", y.fill(6, b[0], b[1]), HoopYard.NONE);
      due.is("judge, no peg", y.judge(-1, b[0], b[1]), HoopYard.NONE);
    }
    due.is("fill, a stave", y.fill(1, 15, 0), OTHER);
    due.is("judge, a stave", y.judge(1, 15, 0), OTHER);
    due.is("fill, nothing", y.fill(2, 15, 0), EMPTY);
    due.is("judge, nothing", y.judge(2, 15, 0), EMPTY);
    due.are("nothing was laid", items(y, 0, 4), 0, 0, 0, 0);
  }

  private static void move() {
    HoopYard y = stocked();
    y.tray(0, 0, 6);
    y.tray(1, 0, 3);
    y.tray(2, 1, 3);
    y.hang(3, 1, 0);
    for (int i = 0; i < 6; i++) {
      y.put(0, i, i + 1);
    }
    due.is("up, over itself", y.move(0, 0, 0, 2, 4), 4);
    due.are("as they were before", items(y, 0, 6), 1, 2, 1, 2, 3, 4);
    due.is("down, over itself", y.move(0, 1, 0, 0, 5), 5);
    due.are("as they were before", items(y, 0, 6), 2, 1, 2, 3, 4, 4);
    due.is("to another", y.move(0, 3, 1, 1, 2), 2);
    due.are("the other one", items(y, 1, 3), 0, 3, 4);
    due.is("none at the end", y.move(0, 6, 1, 3, 0), 0);
    due.is("longs to themselves", y.move(2, 0, 2, 0, 3), 3);
    int[][] outside = {{-1, 0, 1}, {0, -1, 1}, {0, 0, -1}, {0, 0, 4}, {6, 0, 1}, {7, 0, 0}, {0, 4, 0}, {5, 0, 2},
      {0, 2, 2}, {1, 0, Integer.MAX_VALUE}, {Integer.MAX_VALUE, 0, 1}, {0, Integer.MAX_VALUE, Integer.MAX_VALUE},
      {Integer.MIN_VALUE, 0, Integer.MIN_VALUE}};
    for (int[] o : outside) {
      due.is("outside", y.move(0, o[0], 1, o[1], o[2]), OUTSIDE);
    }
    due.are("nothing was moved", items(y, 1, 3), 0, 3, 4);
    due.is("unlike sorts, outside", y.move(0, -1, 2, 0, 1), OTHER);
    due.is("unlike sorts", y.move(2, 0, 0, 0, 1), OTHER);
    due.is("unlike sorts, none", y.move(2, 0, 0, 0, 0), OTHER);
    due.is("to a hoop", y.move(0, 0, 3, 0, 1), OTHER);
    due.is("from a hoop", y.move(3, 0, 0, 0, 1), OTHER);
    due.is("to nothing", y.move(0, 0, 4, 0, 1), EMPTY);
    due.is("from nothing", y.move(4, 0, 0, 0, 1), EMPTY);
    due.is("from a hoop to nothing", y.move(3, 0, 4, 0, 1), EMPTY);
    due.is("to no peg", y.move(4, 0, 6, 0, 1), HoopYard.NONE);
    due.is("from no peg", y.move(-1, 0, 4, 0, 1), HoopYard.NONE);
  }
}
