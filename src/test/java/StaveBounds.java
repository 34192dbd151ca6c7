/** The boundaries of Terms 1 and of the promises about staves, rules and rounds. */
final class StaveBounds {
  private static final int NONE = Sentences.NONE, BAD = Sentences.BAD, STATE = Sentences.STATE, FULL = Sentences.FULL;
  private static final int NOT = Sentences.NOT, MIN = Sentences.MIN, MAX = Sentences.MAX;
  private static final String NINE = "stave(0, 1, 1, 0)" + ";stave(0, 1, 1, 0)".repeat(8);

  private final Sentences s;

  StaveBounds(Sentences s) {
    this.s = s;
  }

  void test() {
    newObject();
    staves();
    counts();
    edgesAndPrices();
    rules();
    told();
    ofStave();
    takes();
    shave();
    fits();
    bestFit();
    sag();
    root();
    sums();
    nearest();
  }

  private void newObject() {
    s.says("Promise 1", "Nothing is in the yard.");
    s.yard();
    s.are("told(#)", 100, 4, 3, 102, 0, 0, 0, 0, 0);
    s.are("held(#)", 0, 0, 0, 0, 0, 0);
    s.is("ofStave(0, 0)", NONE);
    s.is("ofHoop(0, 0)", NONE);
    s.is("hang(0, 2, 0)", NONE);
    s.is("undo()", STATE);
    s.is("read()", -100);
  }

  private void staves() {
    s.says("Terms 1", "STAVES 0, 1, .. as they come (9 at most)");
    s.yard();
    for (int i = 0; i < 9; i++) {
      s.is("stave(0, 1, 1, 0)", i);
    }
    s.refused("stave(0, 1, 1, 0)", FULL);
    s.is("takes(0)", 8);
    s.is("stave(0, 2, 1, 0)", 8);
    s.refused("stave(0, 1, 1, 0)", FULL);

    s.says("Terms 1", "WIDTH (1 .. 99)");
    s.yard();
    s.refusedEach("stave(0, #, 1, 0)", new int[] {0, 100, -1, MIN, MAX}, BAD);
    s.each("stave(0, #, 1, 0)", new int[] {1, 99}, 0, 1);
    s.are("ofStave(#, 1)", 1, 99);

    s.says("Terms 1", "THICK (1 .. 9)");
    s.yard();
    s.refusedEach("stave(0, 1, #, 0)", new int[] {0, 10, -1, MIN, MAX}, BAD);
    s.each("stave(0, 1, #, 0)", new int[] {1, 9}, 0, 1);
    s.are("ofStave(#, 2)", 1, 9);

    s.says("Terms 1", "BEVEL (-9 .. 9)");
    s.yard();
    s.refusedEach("stave(0, 1, 1, #)", new int[] {-10, 10, MIN, MAX}, BAD);
    s.each("stave(0, 1, 1, #)", new int[] {-9, 9, 0}, 0, 1, 2);
    s.are("ofStave(#, 3)", 91, 109, 100);

    s.says("Promise 2", "A STAVE more: its number. BAD; FULL.");
    s.yard();
    s.refusedEach("stave(#, 1, 1, 0)", new int[] {-1, 5, MIN, MAX}, BAD);
    s.are("stave(#, 1, 1, 0)", 0, 1, 2, 3, 4);
    s.yard(NINE);
    s.refused("stave(5, 1, 1, 0)", BAD);
    s.refused("stave(0, 100, 1, 0)", BAD);
    s.refused("stave(0, 1, 0, 0)", BAD);
    s.refused("stave(0, 1, 1, 10)", BAD);
    s.refused("stave(4, 99, 9, -9)", FULL);
  }

  private void counts() {
    s.says("Terms 1", "1 SAWN under STAVE: 1 less, 1 at least");
    s.yard("stave(1, 1, 1, 0); stave(1, 2, 1, 0); stave(1, 3, 1, 0); stave(1, 99, 1, 0)");
    s.are("ofStave(#, 4)", 1, 1, 2, 98);

    s.says("Terms 1", "3 BUNG under CLEFT: 2 more than a CLEFT");
    s.yard("stave(3, 1, 1, 0); stave(3, 99, 1, 0); stave(2, 99, 1, 0)");
    s.are("ofStave(#, 4)", 3, 101, 99);

    s.says("Terms 1", "4 THIN under SAWN: half of a SAWN one's, cut, 1 at least");
    s.yard();
    for (int width = 1; width <= 6; width++) {
      s.does("stave(4, " + width + ", 1, 0)");
    }
    s.does("stave(4, 99, 1, 0); stave(4, 98, 1, 0)");
    s.are("ofStave(#, 4)", 1, 1, 1, 1, 2, 2, 49, 48);
  }

  private void edgesAndPrices() {
    s.says("Terms 1", "EDGE: STAVE: BEVEL; CLEFT: 1 more; THIN: 2 less than a SAWN; others as what they are under.");
    s.yard("stave(0, 1, 1, -9); stave(1, 1, 1, -9); stave(2, 1, 1, 9); stave(3, 1, 1, 9); stave(4, 1, 1, -9)");
    s.are("ofStave(#, 5)", 91, 91, 110, 110, 89);

    s.says("Terms 1", "SAWN: half of a STAVE's, cut; BUNG: 7 more than a CLEFT");
    s.yard("stave(1, 1, 1, 0); stave(1, 3, 1, 0); stave(1, 99, 9, 0); stave(4, 3, 3, 0); stave(4, 2, 2, 0)");
    s.does("stave(3, 1, 1, 0); stave(3, 99, 9, 0); stave(2, 99, 9, 0); stave(0, 1, 1, 0)");
    s.are("ofStave(#, 6)", 0, 1, 445, 4, 2, 8, 898, 891, 1);
  }

  private void rules() {
    String[] words = {"GIRTH (10 .. 500; 100 at first)", "SLACK (0 .. 50; 4 at first)", "TAPER (0 .. 20; 3 at first)",
      "NEED (-20 .. 20; 2 at first)"};
    int[] low = {10, 0, 0, -20}, high = {500, 50, 20, 20}, first = {100, 4, 3, 102};
    for (int what = 0; what < 4; what++) {
      int raised = what == 3 ? 100 : 0;
      String rule = "rule(" + what + ", #)", told = "told(" + what + ")";
      s.says("Terms 1", words[what]);
      s.yard();
      s.is(told, first[what]);
      s.refusedEach(rule, new int[] {low[what] - 1, high[what] + 1, MIN, MAX}, BAD);
      s.is(rule.replace("#", "" + low[what]), 1);
      s.is(told, low[what] + raised);
      s.is(rule.replace("#", "" + high[what]), 1);
      s.is(told, high[what] + raised);
      s.refused(rule.replace("#", "" + (high[what] + 1)), BAD);
    }

    s.says("Promise 5", "becomes v: 1. NONE; BAD.");
    s.yard();
    s.refusedEach("rule(#, 15)", new int[] {-1, 4, MIN, MAX}, NONE);
    s.refusedEach("rule(#, 9999)", new int[] {-1, 4}, NONE);
    s.refusedEach("rule(#, 9999)", new int[] {0, 1, 2, 3}, BAD);
    s.each("rule(#, 15)", new int[] {0, 1, 2, 3}, 1, 1, 1, 1);
    s.are("told(#)", 15, 15, 15, 115);
  }

  private void told() {
    s.says("Promise 6", "8 TEXTS done. NONE.");
    s.yard("stave(0, 1, 1, 0); hoop(0, 1, 0); hoop(0, 1, 0); board(1); board(1); board(1); feed(1)");
    s.refusedEach("told(#)", new int[] {-1, 9, MIN, MAX}, NONE);
    s.are("told(#)", 100, 4, 3, 102, 1, 2, 3, 1, 0);
    s.changesNothing("told(8)", 0);
  }

  private void ofStave() {
    s.says("Promise 7", "7 SAG (NOT). NONE.");
    s.yard("stave(3, 10, 3, 2); stave(0, 99, 1, 0)");
    s.refusedEach("ofStave(#, 0)", new int[] {-1, 2, 9, MIN, MAX}, NONE);
    s.refusedEach("ofStave(0, #)", new int[] {-1, 8, MIN, MAX}, NONE);
    s.refused("ofStave(2, 8)", NONE);
    s.are("ofStave(0, #)", 3, 10, 3, 102, 12, 103, 37, 1);
    s.changesNothing("ofStave(0, 7)", 1);
    s.refused("ofStave(1, 7)", NOT);
  }

  private void takes() {
    s.says("Promise 8", "The last STAVE (what 0), HOOP (1), BOARD (2) is none any more: how many there are.");
    s.yard("stave(0, 1, 1, 0); stave(0, 2, 1, 0); hoop(0, 1, 0); hoop(0, 2, 0); board(1); board(2)");
    s.are("takes(#)", 1, 1, 1);
    s.each("told(#)", new int[] {4, 5, 6}, 1, 1, 1);
    s.each("ofStave(#, 1)", new int[] {0, 1}, 1, NONE);
    s.each("ofHoop(#, 1)", new int[] {0, 1}, 1, NONE);
    s.each("hang(0, 2, #)", new int[] {0, 1}, 1, NONE);
    s.is("least(3, 0, 0)", BAD);
    s.is("used(1, 2)", BAD);
    s.are("takes(#)", 0, 0, 0);

    s.says("Promise 8", "BAD; STATE: there is none.");
    s.yard();
    s.refusedEach("takes(#)", new int[] {0, 1, 2}, STATE);
    s.refusedEach("takes(#)", new int[] {-1, 3, MIN, MAX}, BAD);
    s.yard("stave(0, 1, 1, 0)");
    s.refusedEach("takes(#)", new int[] {1, 2}, STATE);
    s.is("takes(0)", 0);
    s.refused("takes(0)", STATE);
    s.yard("hoop(0, 1, 0); board(1)");
    s.refused("takes(0)", STATE);
    s.is("takes(1)", 0);
    s.refused("takes(1)", STATE);
    s.is("takes(2)", 0);
    s.refused("takes(2)", STATE);
  }

  private void shave() {
    s.says("Promise 9", "WIDTH becomes less: what it was. NONE; BAD: width is not 1 .. WIDTH.");
    s.yard("stave(3, 50, 2, 1); stave(0, 60, 1, 0)");
    s.refusedEach("shave(0, #)", new int[] {0, -1, 51, 60, MIN, MAX}, BAD);
    s.refusedEach("shave(#, 10)", new int[] {-1, 2, 9, MIN, MAX}, NONE);
    s.refusedEach("shave(#, 0)", new int[] {-1, 2}, NONE);
    s.changesNothing("shave(0, 50)", 50);
    s.is("shave(0, 49)", 50);
    s.refused("shave(0, 50)", BAD);
    s.is("shave(0, 1)", 49);
    s.is("shave(0, 1)", 1);
    s.refused("shave(0, 2)", BAD);
    s.are("ofStave(0, #)", 3, 1, 2, 101, 3, 102, 9);
    s.is("ofStave(1, 1)", 60);
  }

  private void fits() {
    s.says("Terms 1", "FITS: sets of STAVES (bits), one at least, whose COUNTS together are GIRTH .. GIRTH and SLACK.");
    s.yard("rule(0, 10)");
    s.is("fits(0)", 0);
    s.does("stave(0, 9, 1, 0); stave(0, 10, 1, 0); stave(0, 14, 1, 0); stave(0, 15, 1, 0)");
    s.is("fits(0)", 2);
    s.does("rule(1, 0)");
    s.is("fits(0)", 1);
    s.does("rule(1, 5)");
    s.is("fits(0)", 3);
    s.does("rule(0, 19); rule(1, 0)");
    s.is("fits(0)", 1);
    s.is("fits(1)", 3);
    // all bounds at once: 495 and 5 makes 500, 495 and 4 and 51 makes 550; 499 and 551 are sums, too
    s.yard("rule(0, 500); rule(1, 50)");
    s.does("stave(0, 99, 1, 0)" + ";stave(0, 99, 1, 0)".repeat(4));
    s.does("stave(0, 4, 1, 0); stave(0, 5, 1, 0); stave(0, 50, 1, 0); stave(0, 51, 1, 0)");
    s.are("fits(#)", 22, 95, 500, 500);

    s.says("Promise 10", "What 0 how many FITS, 1 BEST FIT (bits; NOT), 2 its COUNTS (NOT), 3 its PRICE (NOT). BAD.");
    s.yard("stave(0, 99, 2, 0)");
    s.are("fits(#)", 0, NOT, NOT, NOT);
    s.refusedEach("fits(#)", new int[] {1, 2, 3}, NOT);
    s.refusedEach("fits(#)", new int[] {-1, 4, MIN, MAX}, BAD);
    s.does("stave(0, 1, 3, 0)");
    s.are("fits(#)", 1, 3, 100, 201);
    s.changesNothing("fits(1)", 3);
    s.yard();
    s.are("fits(#)", 0, NOT, NOT, NOT);
  }

  private void bestFit() {
    s.says("Terms 1", "BEST FIT: of these that with least COUNTS");
    s.yard("rule(0, 10); stave(0, 11, 1, 0); stave(0, 10, 9, 0); stave(0, 14, 1, 0)");
    s.are("fits(#)", 3, 2, 10, 90);

    s.says("Terms 1", "then with least PRICE together");
    s.yard("rule(0, 10); stave(0, 10, 9, 0); stave(0, 5, 1, 0); stave(0, 5, 8, 0)");
    s.are("fits(#)", 2, 6, 10, 45);

    s.says("Terms 1", "then of fewest STAVES");
    s.yard("rule(0, 10); stave(0, 5, 1, 0); stave(0, 5, 1, 0); stave(0, 10, 1, 0)");
    s.are("fits(#)", 2, 4, 10, 10);

    s.says("Terms 1", "then the least bits");
    s.yard("rule(0, 10); stave(0, 4, 1, 0); stave(0, 4, 1, 0); stave(0, 6, 1, 0); stave(0, 6, 1, 0)");
    s.are("fits(#)", 7, 5, 10, 10);
    s.yard("rule(0, 10); stave(0, 10, 1, 0); stave(0, 10, 1, 0)");
    s.are("fits(#)", 2, 1, 10, 10);
  }

  private void sag() {
    s.says("Terms 1", "RADIUS of a girth: 113 times the girth, over 710, cut.");
    s.yard("rule(0, 43); stave(0, 12, 1, 0); stave(0, 13, 1, 0); stave(0, 14, 1, 0); stave(0, 15, 1, 0)");
    s.are("ofStave(#, 7)", 6, NOT, NOT, NOT);
    s.does("rule(0, 44)");
    s.are("ofStave(#, 7)", 3, 4, 7, NOT);
    // 35482 is 18 less than 50 times 710
    s.yard("rule(0, 314); stave(0, 98, 1, 0); stave(0, 99, 1, 0)");
    s.are("ofStave(#, 7)", 49, NOT);
    s.does("rule(0, 315)");
    s.are("ofStave(#, 7)", 40, 43);

    s.says("Terms 1", "half (cut) of what D is more than ROOT of (D times D less COUNTS times COUNTS)");
    s.yard("rule(0, 10); stave(0, 1, 1, 0); stave(0, 2, 1, 0); stave(0, 99, 1, 0); stave(3, 99, 1, 0)");
    s.each("ofStave(#, 7)", new int[] {0, 1}, 0, 1);
    s.does("rule(0, 500)");
    s.each("ofStave(#, 7)", new int[] {2, 3}, 17, 18);

    s.says("Terms 1", "NOT, if COUNTS are above D.");
    s.yard("stave(0, 30, 1, 0); stave(0, 31, 1, 0); stave(1, 31, 1, 0); stave(1, 32, 1, 0); stave(3, 29, 1, 0)");
    s.are("ofStave(#, 7)", 15, NOT, 15, NOT, NOT);
    s.refused("ofStave(1, 7)", NOT);
  }

  private void root() {
    s.says("Terms 1", "ROOT: the greatest whole number whose square is no more.");
    // D 10: 64 has the root 8, 36 the root 6; D 8: the root of 48 is not yet 7
    s.yard("rule(0, 32); stave(0, 6, 1, 0); stave(0, 8, 1, 0); stave(0, 4, 1, 0)");
    s.each("ofStave(#, 7)", new int[] {0, 1}, 1, 2);
    s.does("rule(0, 26)");
    s.is("ofStave(2, 7)", 1);
    s.is("ofStave(1, 7)", 4);
  }

  private void sums() {
    s.says("Promise 11", "How many sets of STAVES (nobody, too) have COUNTS of sum (0 .. 999) together. BAD.");
    s.yard();
    s.is("sums(0)", 1);
    s.refusedEach("sums(#)", new int[] {-1, 1000, MIN, MAX}, BAD);
    s.changesNothing("sums(0)", 1);
    s.changesNothing("sums(999)", 0);
    s.does("stave(0, 3, 1, 0); stave(2, 5, 1, 0); stave(0, 8, 1, 0)");
    s.each("sums(#)", new int[] {0, 3, 8, 16, 17, 999}, 1, 1, 2, 1, 0, 0);
    s.yard("stave(3, 99, 1, 0)" + ";stave(3, 99, 1, 0)".repeat(8));
    s.each("sums(#)", new int[] {0, 101, 909, 910, 999}, 1, 9, 1, 0, 0);
    s.refused("sums(1000)", BAD);
  }

  private void nearest() {
    s.says("Promise 12", "The COUNTS of a set (one STAVE at least) nearest to sum (0 .. 999), of two the lesser.");
    s.yard("stave(0, 10, 1, 0); stave(0, 13, 1, 0)");
    s.each("nearest(#)", new int[] {0, 1, 10, 11, 12, 13, 999}, 10, 10, 10, 10, 13, 13, 23);
    // 18 is as near to 13 as to 23; with the lesser one told last as well
    s.is("nearest(18)", 13);
    s.yard("stave(0, 14, 1, 0); stave(0, 10, 1, 0)");
    s.each("nearest(#)", new int[] {11, 12, 13, 19, 20}, 10, 10, 14, 14, 24);

    s.says("Promise 12", "BAD; STATE: there are no STAVES.");
    s.yard();
    s.refusedEach("nearest(#)", new int[] {0, 5, 999}, STATE);
    s.refusedEach("nearest(#)", new int[] {-1, 1000, MIN, MAX}, BAD);
    s.does("stave(0, 7, 1, 0)");
    s.changesNothing("nearest(0)", 7);
    s.refusedEach("nearest(#)", new int[] {-1, 1000}, BAD);
    s.does("takes(0)");
    s.refused("nearest(7)", STATE);
  }
}
