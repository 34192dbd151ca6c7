/** Promises 1 to 12: a new object, what is made and taken, rules, staves and the rounds they make. */
public final class StavesTest {
  private static final Due due = new Due("StavesTest");

  public static void main(String[] args) {
    newObject();
    making();
    rules();
    ofStave();
    sag();
    takes();
    shave();
    fits();
    sumsAndNearest();
    due.end();
  }

  private static long[] told(HoopYard y) {
    long[] told = new long[9];
    for (int what = 0; what < 9; what++) {
      told[what] = y.told(what);
    }
    return told;
  }

  private static long[] ofStave(HoopYard y, int stave) {
    long[] of = new long[8];
    for (int what = 0; what < 8; what++) {
      of[what] = y.ofStave(stave, what);
    }
    return of;
  }

  private static void newObject() {
    HoopYard y = new HoopYard();
    due.are("told of a new one", told(y), 100, 4, 3, 102, 0, 0, 0, 0, 0);
    due.is("told(-1)", y.told(-1), HoopYard.NONE);
    due.is("told(9)", y.told(9), HoopYard.NONE);
    for (int peg = 0; peg < 6; peg++) {
      due.is("held of a new one", y.held(peg), 0);
    }
    due.is("undo of a new one", y.undo(), HoopYard.STATE);
    due.is("no stave", y.ofStave(0, 0), HoopYard.NONE);
    due.is("no hoop", y.ofHoop(0, 0), HoopYard.NONE);
  }

  private static void making() {
    HoopYard y = new HoopYard();
    int[][] badStaves = {{-1, 1, 1, 0}, {5, 1, 1, 0}, {0, 0, 1, 0}, {0, 100, 1, 0}, {0, 1, 0, 0}, {0, 1, 10, 0},
      {0, 1, 1, -10}, {0, 1, 1, 10}};
    for (int[] b : badStaves) {
      due.is("bad stave", y.stave(b[0], b[1], b[2], b[3]), HoopYard.BAD);
    }
    int[][] badHoops = {{-1, 1, 0}, {4, 1, 0}, {0, 0, 0}, {0, 601, 0}, {0, 1, -1}, {0, 1, 2}};
    for (int[] b : badHoops) {
      due.is("bad hoop", y.hoop(b[0], b[1], b[2]), HoopYard.BAD);
    }
    due.is("board(0)", y.board(0), HoopYard.BAD);
    due.is("board(100)", y.board(100), HoopYard.BAD);
    due.are("nothing was made", told(y), 100, 4, 3, 102, 0, 0, 0, 0, 0);
    for (int i = 0; i < 9; i++) {
      due.is("stave " + i, y.stave(i % 5, i % 2 == 0 ? 1 : 99, i % 2 == 0 ? 9 : 1, i % 2 == 0 ? -9 : 9), i);
    }
    for (int i = 0; i < 6; i++) {
      due.is("hoop " + i, y.hoop(i % 4, i % 2 == 0 ? 1 : 600, i % 2), i);
    }
    for (int i = 0; i < 7; i++) {
      due.is("board " + i, y.board(i % 2 == 0 ? 1 : 99), i);
    }
    due.is("a tenth stave", y.stave(0, 1, 1, 0), HoopYard.FULL);
    due.is("a bad tenth stave", y.stave(0, 1, 1, 11), HoopYard.BAD);
    due.is("a seventh hoop", y.hoop(0, 1, 0), HoopYard.FULL);
    due.is("a bad seventh hoop", y.hoop(0, 1, 2), HoopYard.BAD);
    due.is("an eighth board", y.board(1), HoopYard.FULL);
    due.is("a bad eighth board", y.board(0), HoopYard.BAD);
    due.are("all is full", told(y), 100, 4, 3, 102, 9, 6, 7, 0, 0);
  }

  private static void rules() {
    HoopYard y = new HoopYard();
    int[] low = {10, 0, 0, -20}, high = {500, 50, 20, 20};
    for (int what = 0; what < 4; what++) {
      int raised = what == 3 ? 100 : 0;
      due.is("rule at its least", y.rule(what, low[what]), 1);
      due.is("told least", y.told(what), low[what] + raised);
      due.is("rule below", y.rule(what, low[what] - 1), HoopYard.BAD);
      due.is("told as before", y.told(what), low[what] + raised);
      due.is("rule at its most", y.rule(what, high[what]), 1);
      due.is("rule above", y.rule(what, high[what] + 1), HoopYard.BAD);
      due.is("told most", y.told(what), high[what] + raised);
    }
    due.is("rule(-1, 1)", y.rule(-1, 1), HoopYard.NONE);
    due.is("rule(4, 999)", y.rule(4, 999), HoopYard.NONE);
  }

  private static void ofStave() {
    HoopYard y = new HoopYard();
    for (int kind = 0; kind < 5; kind++) {
      y.stave(kind, 10, 3, 2);
    }
    due.are("STAVE", ofStave(y, 0), 0, 10, 3, 102, 10, 102, 30, 1);
    due.are("SAWN", ofStave(y, 1), 1, 10, 3, 102, 9, 102, 15, 1);
    due.are("CLEFT", ofStave(y, 2), 2, 10, 3, 102, 10, 103, 30, 1);
    due.are("BUNG", ofStave(y, 3), 3, 10, 3, 102, 12, 103, 37, 1);
    due.are("THIN", ofStave(y, 4), 4, 10, 3, 102, 4, 100, 15, 0);
    due.is("no such what", y.ofStave(0, 8), HoopYard.NONE);
    due.is("no such what", y.ofStave(0, -1), HoopYard.NONE);
    due.is("no such stave", y.ofStave(5, 0), HoopYard.NONE);
    due.is("no such stave", y.ofStave(-1, 0), HoopYard.NONE);

    HoopYard small = new HoopYard();
    for (int kind = 0; kind < 5; kind++) {
      small.stave(kind, 1, 1, -9);
    }
    due.are("STAVE of 1", ofStave(small, 0), 0, 1, 1, 91, 1, 91, 1, 0);
    due.are("SAWN of 1", ofStave(small, 1), 1, 1, 1, 91, 1, 91, 0, 0);
    due.are("CLEFT of 1", ofStave(small, 2), 2, 1, 1, 91, 1, 92, 1, 0);
    due.are("BUNG of 1", ofStave(small, 3), 3, 1, 1, 91, 3, 92, 8, 0);
    due.are("THIN of 1", ofStave(small, 4), 4, 1, 1, 91, 1, 89, 0, 0);
    small.stave(4, 2, 1, 9);
    due.is("THIN of 2: COUNTS", small.ofStave(5, 4), 1);
    due.is("THIN of 2: EDGE", small.ofStave(5, 5), 107);
    small.stave(1, 5, 3, 9);
    due.is("SAWN of 5 by 3: PRICE cut", small.ofStave(6, 6), 7);
    small.stave(4, 99, 9, 9);
    due.is("THIN of 99: COUNTS", small.ofStave(7, 4), 49);
    due.is("THIN of 99: PRICE", small.ofStave(7, 6), 445);
  }

  private static void sag() {
    HoopYard y = new HoopYard();
    y.stave(0, 30, 1, 0);
    y.stave(0, 31, 1, 0);
    y.stave(0, 20, 1, 0);
    y.stave(0, 99, 1, 0);
    y.stave(0, 2, 1, 0);
    y.stave(0, 3, 1, 0);
    due.is("as wide as D", y.ofStave(0, 7), 15);
    due.is("wider than D", y.ofStave(1, 7), HoopYard.NOT);
    due.is("30 less 22, halved", y.ofStave(2, 7), 4);
    y.rule(0, 500);
    due.is("158 less 123, halved", y.ofStave(3, 7), 17);
    y.rule(0, 10);
    due.is("2 of 2", y.ofStave(4, 7), 1);
    due.is("3 of 2", y.ofStave(5, 7), HoopYard.NOT);
    y.rule(0, 44);
    y.takes(0);
    y.stave(0, 14, 1, 0);
    due.is("RADIUS of 44: 4972 over 710", y.ofStave(5, 7), 7);
    y.rule(0, 333);
    due.is("RADIUS of 333: 37629 over 710", y.ofStave(3, 7), 36);
    // a BUNG's COUNTS, not its WIDTH, are what D is held against
    y.rule(0, 100);
    y.stave(3, 29, 1, 0);
    due.is("a BUNG of 29", y.ofStave(6, 7), HoopYard.NOT);
  }

  private static void takes() {
    HoopYard y = new HoopYard();
    for (int what = 0; what < 3; what++) {
      due.is("takes of none", y.takes(what), HoopYard.STATE);
    }
    due.is("takes(3)", y.takes(3), HoopYard.BAD);
    due.is("takes(-1)", y.takes(-1), HoopYard.BAD);
    y.stave(0, 10, 1, 0);
    y.stave(1, 20, 1, 0);
    y.hoop(0, 50, 0);
    y.board(5);
    y.board(6);
    y.board(7);
    due.is("takes(0)", y.takes(0), 1);
    due.is("the last is gone", y.ofStave(1, 1), HoopYard.NONE);
    due.is("the first is there", y.ofStave(0, 1), 10);
    due.is("takes(1)", y.takes(1), 0);
    due.is("takes(2)", y.takes(2), 2);
    due.is("takes(1) again", y.takes(1), HoopYard.STATE);
    due.is("the next stave's number", y.stave(2, 30, 1, 0), 1);
    due.is("and its WIDTH", y.ofStave(1, 1), 30);
    due.are("what is left", told(y), 100, 4, 3, 102, 2, 0, 2, 0, 0);
    due.is("takes(0)", y.takes(0), 1);
    due.is("the last takes(0)", y.takes(0), 0);
    due.is("one takes(0) more", y.takes(0), HoopYard.STATE);
    due.is("takes(2)", y.takes(2), 1);
    due.is("the last takes(2)", y.takes(2), 0);
    due.is("one takes(2) more", y.takes(2), HoopYard.STATE);
    due.are("nothing is left", told(y), 100, 4, 3, 102, 0, 0, 0, 0, 0);
  }

  private static void shave() {
    HoopYard y = new HoopYard();
    y.stave(3, 10, 2, 1);
    due.is("shave to 0", y.shave(0, 0), HoopYard.BAD);
    due.is("shave to more", y.shave(0, 11), HoopYard.BAD);
    due.is("of no stave", y.shave(1, 0), HoopYard.NONE);
    due.is("of no stave", y.shave(-1, 5), HoopYard.NONE);
    due.is("shave to 10", y.shave(0, 10), 10);
    due.is("shave to 4", y.shave(0, 4), 10);
    due.is("shave to 5", y.shave(0, 5), HoopYard.BAD);
    due.are("BUNG of 4", ofStave(y, 0), 3, 4, 2, 101, 6, 102, 15, 0);
    due.is("shave to 1", y.shave(0, 1), 4);
  }

  private static void fits() {
    HoopYard y = new HoopYard();
    due.is("fits(4)", y.fits(4), HoopYard.BAD);
    due.is("fits(-1)", y.fits(-1), HoopYard.BAD);
    due.is("fits(0) of none", y.fits(0), 0);
    due.is("fits(1) of none", y.fits(1), HoopYard.NOT);
    y.rule(0, 10);
    y.rule(1, 0);
    y.stave(1, 10, 1, 0);
    y.stave(1, 1, 1, 0);
    y.stave(1, 11, 1, 0);
    due.is("9 and 1, or 10", y.fits(0), 2);
    due.is("of like price the fewest", y.fits(1), 4);
    due.is("its COUNTS", y.fits(2), 10);
    due.is("its PRICE", y.fits(3), 5);
    y.stave(1, 11, 1, 0);
    due.is("of fewest the least bits", y.fits(1), 4);
    y.rule(1, 2);
    due.is("10 and 11 as well", y.fits(0), 5);
    due.is("the least COUNTS still", y.fits(1), 4);
    y.rule(0, 11);
    due.is("11 now: bits", y.fits(1), 6);
    due.is("11 now: COUNTS", y.fits(2), 11);
    due.is("11 now: PRICE", y.fits(3), 5);
    y.rule(0, 400);
    due.is("too wide a girth", y.fits(0), 0);
    due.is("too wide: bits", y.fits(1), HoopYard.NOT);
    due.is("too wide: COUNTS", y.fits(2), HoopYard.NOT);
    due.is("too wide: PRICE", y.fits(3), HoopYard.NOT);

    HoopYard one = new HoopYard();
    one.rule(0, 10);
    one.stave(2, 13, 2, 0);
    due.is("one: how many", one.fits(0), 1);
    due.is("one: bits", one.fits(1), 1);
    due.is("one: COUNTS", one.fits(2), 13);
    due.is("one: PRICE", one.fits(3), 26);
    one.rule(1, 2);
    due.is("one: 13 is above 10 .. 12", one.fits(1), HoopYard.NOT);

    HoopYard dear = new HoopYard();
    dear.rule(0, 10);
    dear.stave(0, 10, 9, 0);
    dear.stave(0, 5, 1, 0);
    dear.stave(0, 5, 1, 0);
    due.is("the less PRICE ahead of the fewer", dear.fits(1), 6);
    due.is("its PRICE", dear.fits(3), 10);
    due.is("10 .. 14: two sets", dear.fits(0), 2);
    dear.rule(1, 5);
    due.is("10 .. 15", dear.fits(0), 4);
  }

  private static void sumsAndNearest() {
    HoopYard y = new HoopYard();
    due.is("nobody", y.sums(0), 1);
    due.is("nearest of none", y.nearest(5), HoopYard.STATE);
    due.is("nearest(1000) of none", y.nearest(1000), HoopYard.BAD);
    y.stave(0, 3, 1, 0);
    y.stave(0, 5, 1, 0);
    y.stave(2, 8, 1, 0);
    due.is("sums(8)", y.sums(8), 2);
    due.is("sums(0)", y.sums(0), 1);
    due.is("sums(16)", y.sums(16), 1);
    due.is("sums(4)", y.sums(4), 0);
    due.is("sums(999)", y.sums(999), 0);
    due.is("sums(-1)", y.sums(-1), HoopYard.BAD);
    due.is("sums(1000)", y.sums(1000), HoopYard.BAD);
    due.is("nearest(0)", y.nearest(0), 3);
    due.is("nearest(4): of two the lesser", y.nearest(4), 3);
    due.is("nearest(7)", y.nearest(7), 8);
    due.is("nearest(12): of 11 and 13", y.nearest(12), 11);
    due.is("nearest(6): 5 is nearer than 8", y.nearest(6), 5);
    due.is("nearest(15)", y.nearest(15), 16);
    due.is("nearest(999)", y.nearest(999), 16);
    due.is("nearest(-1)", y.nearest(-1), HoopYard.BAD);
  }
}
