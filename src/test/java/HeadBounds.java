/** The boundaries of Terms 4 and of the promises about boards. */
final class HeadBounds {
  private static final int NONE = Sentences.NONE, BAD = Sentences.BAD, FULL = Sentences.FULL, NOT = Sentences.NOT;
  private static final int MIN = Sentences.MIN, MAX = Sentences.MAX;
  private static final int[] BAD_RADII = {0, -1, 201, MIN, MAX};

  private final Sentences s;

  HeadBounds(Sentences s) {
    this.s = s;
  }

  void test() {
    boards();
    radii();
    rows();
    nearestPlaces();
    roots();
    leastHead();
    headRefusals();
    usedRefusals();
    heads();
  }

  private void boards() {
    s.says("Terms 4", "BOARDS 0, 1, .. as they come (7 at most)");
    s.yard();
    for (int i = 0; i < 7; i++) {
      s.is("board(1)", i);
    }
    s.refused("board(1)", FULL);
    s.is("takes(2)", 6);
    s.is("board(2)", 6);
    s.refused("board(1)", FULL);

    s.says("Terms 4", "WIDTH (1 .. 99). A HEAD");
    s.yard();
    s.refusedEach("board(#)", new int[] {0, 100, -1, MIN, MAX}, BAD);
    s.each("board(#)", new int[] {1, 99}, 0, 1);
    s.does("hang(0, 2, 0); hang(1, 2, 1)");
    s.are("as(#, 2, 0)", 1, 99);

    s.says("Promise 4", "A BOARD more: its number. BAD; FULL.");
    s.yard("board(1)" + ";board(1)".repeat(6));
    s.refusedEach("board(#)", new int[] {0, 100}, BAD);
    s.refused("board(99)", FULL);
  }

  private void radii() {
    s.says("Terms 4", "A HEAD of radius r (1 .. 200)");
    s.yard("board(99); board(99); board(99); board(99); board(4)");
    // 400 just reaches twice 200; the CUTS from the one side on: o 101 2 0 97 196 make ROOTS 173 200 200 175 40
    s.is("used(200, 12345)", 99 * 2 * (173 + 200 + 200 + 175) + 4 * 2 * 40);
    s.is("heads(200)", 120);
    s.is("heads(1)", 5);
    s.is("used(1, 5)", 8);
    s.does("takes(2); board(99)");
    s.is("heads(200)", 120);
    s.refusedEach("heads(#)", BAD_RADII, BAD);
    s.refusedEach("head(#, 0)", BAD_RADII, BAD);
    s.refusedEach("used(#, 12345)", BAD_RADII, BAD);
  }

  private void rows() {
    s.says("Terms 4", "as long as s is below twice r another one must come, then none any more.");
    s.yard("board(3); board(5)");
    s.each("heads(#)", new int[] {1, 2, 3, 4, 5}, 2, 2, 2, 2, 0);
    s.is("used(4, 12)", 3 * 8 + 5 * 8);
    s.refusedEach("used(4, #)", new int[] {1, 2}, BAD);
    s.refusedEach("used(5, #)", new int[] {1, 2, 12, 21}, BAD);
    // twice 2 is reached by the second board, but not by the first
    s.is("used(2, 2)", 20);
    s.is("used(2, 12)", 12 + 5 * 4);
    s.refused("used(2, 1)", BAD);
    s.refused("used(2, 21)", BAD);
    s.is("used(1, 1)", 6);
    s.refusedEach("used(1, #)", new int[] {12, 21}, BAD);

    s.says("Terms 4", "BOARDS (some of them, each once) in a row");
    s.yard("board(1); board(1); board(1)");
    s.is("heads(1)", 6);
    s.refusedEach("used(1, #)", new int[] {11, 22, 33}, BAD);
    s.each("used(1, #)", new int[] {12, 13, 21, 23, 31, 32}, 4, 4, 4, 4, 4, 4);
  }

  private void nearestPlaces() {
    s.says("Terms 4", "(0, if r is within, or at its ends; ends beyond twice r told as they are)");
    // r at the end of the first one and the beginning of the second
    s.yard("board(5); board(6); board(4)");
    s.is("used(5, 12)", 50 + 60);
    // r within the first one; the second one is 1 off, the first one 1 off the other way round
    s.is("used(5, 23)", 60 + 4 * 10);
    s.is("used(5, 32)", 4 * 10 + 60);
    // beyond twice r: WIDTH and CUT are told as if the disc went on
    s.yard("board(99); board(3); board(98)");
    s.each("used(1, #)", new int[] {1, 2, 3}, 198, 6, 196);
    s.is("used(2, 21)", 12 + 99 * 4);
    s.is("used(50, 31)", 9800 + 99 * 2 * 14);
    s.is("used(50, 13)", 9900 + 98 * 2 * 10);
  }

  private void roots() {
    s.says("Terms 4", "twice the ROOT of (r times r less o times o),"
        + " the ROOT 1 more, if its square is less than that.");
    // r 5, and o of 0 .. 4: 25, 24, 21, 16, 9
    s.yard("board(5); board(4); board(3); board(2); board(1); board(9)");
    s.each("used(5, #)", new int[] {16, 26, 36, 46, 56}, 140, 130, 120, 106, 96);
    // r 200, o 199: 399 is 1 less than 400; o 120: 25600 is 160 times 160
    s.yard("board(1); board(80); board(99); board(99); board(99); board(99)");
    s.is("used(200, 134562)", 40 + 99 * 2 * (174 + 200 + 200 + 175) + 80 * 2 * 35);
    s.is("used(200, 23456)", 80 * 320 + 99 * 2 * (199 + 200 + 185 + 94));
    // among the ROOTS of all radii are all of 1 .. 200
    s.yard("board(99); board(99); board(99); board(99); board(99)");
    for (int r = 1, row = 1, width = 99; r <= 200; r++) {
      if (width < 2 * r) {
        width += 99;
        row = row * 10 + width / 99;
      }
      int used = 0;
      for (int from = 0; from < 2 * r; from += 99) {
        used += 99 * cut(r, from, from + 99);
      }
      s.is("used(" + r + ", " + row + ")", used);
    }
  }

  /** CUT as plainly as can be: place by place, root by root. */
  private static int cut(int r, int from, int to) {
    int off = Math.abs(from - r);
    for (int place = from; place <= to; place++) {
      off = Math.min(off, Math.abs(place - r));
    }
    int root = 0;
    while (root * root < r * r - off * off) {
      root++;
    }
    return 2 * root;
  }

  private void leastHead() {
    s.says("Terms 4", "LEAST HEAD: the row with least USED, of several the first"
        + " (by the first BOARD, then the next, ..;");
    s.yard("board(1); board(1); board(2)");
    s.are("head(1, #)", 4, 2, 12);
    s.yard("board(2); board(1); board(1)");
    s.are("head(1, #)", 4, 1, 1);
    s.yard("board(1); board(2); board(1)");
    s.are("head(1, #)", 4, 2, 13);
    s.yard("board(3); board(1); board(1); board(1)");
    s.are("head(1, #)", 4, 2, 23);
    s.yard("board(30); board(25)");
    s.are("head(20, #)", 2100, 2, 12);
    s.yard("board(25); board(30)");
    s.are("head(20, #)", 2100, 2, 21);
    s.yard("board(9); board(9); board(6); board(3); board(3); board(9); board(2)");
    s.are("head(5, #)", 16 + 60 + 24, 3, 734);

    s.says("Terms 4", "what is another's beginning is ahead); NOT: BOARDS are too narrow together.");
    s.yard("board(3); board(2)");
    s.each("head(2, #)", new int[] {0, 1, 2}, 5 * 4, 2, 12);
    s.each("head(3, #)", new int[] {0, 1, 2}, NOT, NOT, NOT);
    s.is("heads(3)", 0);
    s.is("board(1)", 2);
    s.each("head(3, #)", new int[] {0, 1, 2}, 36, 3, 123);
    s.is("heads(3)", 6);
    s.each("head(4, #)", new int[] {0, 1, 2}, NOT, NOT, NOT);
  }

  private void headRefusals() {
    s.says("Promise 22", "LEAST HEAD: what 0 USED, 1 how many BOARDS, 2 its digits"
        + " (1 more than each BOARD, the first the highest), each NOT likewise.");
    s.yard("board(1); board(1); board(1); board(1); board(1); board(1); board(1)");
    s.are("head(3, #)", 36, 6, 123456);
    s.refusedEach("head(4, #)", new int[] {0, 1, 2}, NOT);
    s.changesNothing("head(3, 2)", 123456);

    s.says("Promise 22", "BAD: r, what.");
    s.refusedEach("head(#, 0)", BAD_RADII, BAD);
    s.refusedEach("head(3, #)", new int[] {-1, 3, MIN, MAX}, BAD);
    s.refusedEach("head(4, #)", new int[] {-1, 3}, BAD);
    s.yard();
    s.refusedEach("head(1, #)", new int[] {0, 1, 2}, NOT);
    s.refused("head(0, 0)", BAD);
  }

  private void usedRefusals() {
    s.says("Promise 23", "USED of a HEAD told as digits (1 more than each BOARD). BAD: r, it is no HEAD.");
    s.yard("board(2); board(2); board(2)");
    s.changesNothing("used(2, 12)", 16);
    s.is("used(2, 31)", 16);
    int[] none = {0, 1, 2, 123, 14, 41, 4, 10, 20, 102, 120, 11, 19, -1, -12, 1234567891, 12121212, MIN, MAX};
    s.refusedEach("used(2, #)", none, BAD);
    s.refusedEach("used(#, 12)", BAD_RADII, BAD);
    s.refused("used(3, 12)", BAD);
    s.is("takes(2)", 2);
    s.refused("used(2, 31)", BAD);
    s.yard();
    s.refusedEach("used(1, #)", new int[] {0, 1}, BAD);
  }

  private void heads() {
    s.says("Promise 24", "How many HEADS of radius r there are (0: BOARDS are too narrow). BAD.");
    s.yard();
    s.is("heads(1)", 0);
    s.does("board(1)");
    s.is("heads(1)", 0);
    s.does("board(1)");
    s.is("heads(1)", 2);
    s.is("heads(2)", 0);
    s.is("heads(200)", 0);
    s.refusedEach("heads(#)", BAD_RADII, BAD);
    s.changesNothing("heads(1)", 2);
    s.does("board(1); board(1); board(1); board(1); board(1)");
    s.each("heads(#)", new int[] {1, 2, 3, 4}, 42, 840, 5040, 0);
    s.is("hang(0, 2, 7)", NONE);
  }
}
