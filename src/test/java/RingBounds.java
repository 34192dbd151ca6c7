/** The boundaries of Terms 2 and of the promises about rings. */
final class RingBounds {
  private static final int NONE = Sentences.NONE, BAD = Sentences.BAD, MIN = Sentences.MIN, MAX = Sentences.MAX;
  /** BEVELS 0 5 -3 1 and NEED 2, so GAPS: 0 1: 3, 0 2: 5, 0 3: 1, 1 2: 0, 1 3: 4, 2 3: 4; each with itself 2 8 8 0. */
  static final String FOUR = "stave(0, 9, 1, 0); stave(0, 9, 1, 5); stave(0, 9, 1, -3); stave(0, 9, 1, 1)";
  /** BEVELS by turns -9 and 9, the ninth 0; GAPS: like ones 20 and 16, unlike ones 2. */
  private static final String NINE = "stave(0, 9, 1, -9); stave(0, 9, 1, 9)"
      + "; stave(0, 9, 1, -9); stave(0, 9, 1, 9)".repeat(3) + "; stave(0, 9, 1, 0)";
  private static final int[] BAD_SETS = {0, -1, 16, 31, 512, 1 << 30, MIN, MAX};

  private final Sentences s;

  RingBounds(Sentences s) {
    this.s = s;
  }

  void test() {
    sizes();
    tellings();
    joints();
    leaks();
    worst();
    leastRing();
    leastRefusals();
    leakRefusals();
    worstRefusals();
    rings();
  }

  private void sizes() {
    s.says("Terms 2", "A RING of a set (of 1 to 8 STAVES)");
    s.yard(NINE);
    s.are("least(1, 0, #)", 20, 1);
    s.are("least(256, 0, #)", 2, 9);
    s.are("least(255, 0, #)", 16, 12345678);
    s.are("least(510, 99, #)", 0, 23456789);
    s.is("rings(255, 0, 9999)", 5040);
    s.is("rings(510, 0, 9999)", 5040);
    s.refused("least(511, 0, 0)", BAD);
    s.refused("rings(511, 0, 9999)", BAD);
    s.refused("wet(511)", BAD);
    s.refused("driest(511, 600)", BAD);
    s.refused("least(0, 0, 0)", BAD);
    s.is("leak(12345678, 0)", 16);
    s.each("leak(#, 0)", new int[] {9, 89, 19, 789, 6789}, 2, 14, 22, 20, 18);
    s.is("leak(23456789, 99)", 0);
    s.refused("leak(123456789, 0)", BAD);
    s.refused("leak(0, 0)", BAD);
  }

  private void tellings() {
    s.says("Terms 2", "all of it, each once, its least STAVE first;"
        + " told as digits (1 more than each, the first the highest)");
    s.yard(FOUR);
    s.each("leak(#, 0)", new int[] {1234, 1432, 1243, 1342, 1324, 1423, 234, 34, 4}, 8, 8, 16, 16, 10, 10, 8, 8, 0);
    int[] none = {11, 122, 1231, 1223, 21, 2134, 4321, 43, 10, 102, 120, 5, 15, 51, 1235, 9, 19, -1, -12, -1234};
    s.refusedEach("leak(#, 0)", none, BAD);
    s.refusedEach("worst(#, 0, 0)", none, BAD);
    s.refusedEach("leak(#, 0)", new int[] {123456789, 1234123412, 1111111111, 100000000, MIN, MAX}, BAD);
  }

  private void joints() {
    s.says("Terms 2", "the last with the first (of one: with itself; of two there are two)");
    s.yard(FOUR);
    s.each("leak(#, 0)", new int[] {1, 2, 3, 4}, 2, 8, 8, 0);
    s.each("worst(2, #, 1)", new int[] {0, 1}, 8, NONE);
    s.each("leak(#, 0)", new int[] {12, 13, 14, 23}, 6, 10, 2, 0);
    s.each("worst(12, #, 0)", new int[] {0, 1, 2}, 0, 1, NONE);
    s.each("worst(12, #, 1)", new int[] {0, 1, 2}, 3, 3, NONE);
    s.is("leak(123, 0)", 8);
    s.is("worst(123, 0, 0)", 2);

    s.says("Terms 2", "GAP of a JOINT: EDGES of both together less NEED, without its sign.");
    s.yard("stave(4, 1, 1, -9); stave(3, 1, 1, 9); stave(0, 1, 1, 1); stave(0, 1, 1, 0); rule(3, 20)");
    s.each("leak(#, 0)", new int[] {1, 2, 3, 4}, 42, 0, 18, 20);
    s.does("rule(3, -20)");
    s.each("leak(#, 0)", new int[] {1, 2, 3, 4}, 2, 40, 22, 20);
    s.does("rule(3, 2)");
    s.each("leak(#, 0)", new int[] {1, 2, 3, 4, 34}, 24, 18, 0, 2, 2);
    s.does("rule(3, 1)");
    s.is("leak(34, 0)", 0);
    s.does("rule(3, 0)");
    s.is("leak(34, 0)", 2);
  }

  private void leaks() {
    s.says("Terms 2", "LEAK of a RING under a press p (0 .. 99): over its JOINTS, GAP less p (0 at least), together.");
    s.yard(FOUR);
    for (int p = 0; p < 6; p++) {
      s.is("leak(1234, " + p + ")", new int[] {8, 5, 3, 1, 0, 0}[p]);
      s.is("leak(12, " + p + ")", new int[] {6, 4, 2, 0, 0, 0}[p]);
    }
    s.is("leak(1234, 99)", 0);
    s.is("least(15, 99, 0)", 0);
    s.is("rings(15, 99, 0)", 6);
    int[] badPresses = {-1, 100, MIN, MAX};
    s.refusedEach("leak(1234, #)", badPresses, BAD);
    s.refusedEach("least(15, #, 0)", badPresses, BAD);
    s.refusedEach("rings(15, #, 0)", badPresses, BAD);
  }

  private void worst() {
    s.says("Terms 2", "the JOINTS by GAP, the greatest first, of like ones the earlier first"
        + " (numbered from 0, that of the first STAVE with the next is 0)");
    s.yard(FOUR);
    s.are("worst(1234, #, 0)", 2, 0, 3, 1, NONE);
    s.are("worst(1234, #, 1)", 4, 3, 1, 0, NONE);
    s.are("worst(1243, #, 0)", 3, 1, 2, 0, NONE);
    s.are("worst(1243, #, 1)", 5, 4, 4, 3, NONE);
    s.yard(NINE);
    s.are("worst(12345678, #, 0)", 0, 1, 2, 3, 4, 5, 6, 7, NONE);
    s.are("worst(13245768, #, 0)", 0, 4, 2, 6, 1, 3, 5, 7, NONE);
    s.are("worst(13245768, #, 1)", 20, 20, 16, 16, 2, 2, 2, 2, NONE);
  }

  private void leastRing() {
    s.says("Terms 2", "LEAST RING of a set under p: that with least LEAK, of several the least digits.");
    s.yard(FOUR);
    s.are("least(15, 0, #)", 8, 1234);
    s.are("least(15, 4, #)", 0, 1234);
    // with 2 and 3 the other way round the least leak is not that of the least digits, but under 5 nothing leaks at all
    s.yard("stave(0, 9, 1, 0); stave(0, 9, 1, 5); stave(0, 9, 1, 1); stave(0, 9, 1, -3)");
    s.are("least(15, 0, #)", 8, 1243);
    s.are("least(15, 4, #)", 0, 1243);
    s.are("least(15, 5, #)", 0, 1234);
    s.are("least(14, 0, #)", 8, 234);
    s.is("rings(14, 0, 7)", 0);
    s.is("rings(14, 0, 8)", 2);
  }

  private void leastRefusals() {
    s.says("Promise 13", "LEAST RING of a set under p: what 0 its LEAK, 1 its digits.");
    s.yard(FOUR);
    s.changesNothing("least(15, 0, 0)", 8);
    s.changesNothing("least(15, 0, 1)", 1234);
    s.says("Promise 13", "BAD: set (also one with a STAVE that is none, with 9), p, what.");
    s.refusedEach("least(#, 0, 0)", BAD_SETS, BAD);
    s.refusedEach("least(1, #, 0)", new int[] {-1, 100, MIN, MAX}, BAD);
    s.refusedEach("least(1, 0, #)", new int[] {-1, 2, MIN, MAX}, BAD);
    s.is("takes(0)", 3);
    s.refusedEach("least(#, 0, 0)", new int[] {8, 15}, BAD);
    s.is("least(7, 0, 1)", 123);
    s.yard(NINE);
    s.refused("least(511, 0, 1)", BAD);
    s.yard();
    s.refused("least(1, 0, 0)", BAD);
  }

  private void leakRefusals() {
    s.says("Promise 14", "LEAK of a RING. BAD: it is none, p.");
    s.yard(FOUR);
    s.refusedEach("leak(#, 0)", new int[] {0, 21, 11, 5, 15, 10, -1, MIN, MAX}, BAD);
    s.refusedEach("leak(1, #)", new int[] {-1, 100, MIN, MAX}, BAD);
    s.refused("leak(21, 100)", BAD);
    s.changesNothing("leak(1234, 0)", 8);
    s.is("takes(0)", 3);
    s.refusedEach("leak(#, 0)", new int[] {4, 1234}, BAD);
    s.yard();
    s.refused("leak(1, 0)", BAD);
  }

  private void worstRefusals() {
    s.says("Promise 15", "what 0 which JOINT, 1 its GAP. BAD: it is none, what; NONE: i.");
    s.yard(FOUR);
    s.refusedEach("worst(#, 0, 0)", new int[] {0, 21, 11, 5, 15, 10, -1, MIN, MAX}, BAD);
    s.refusedEach("worst(12, 0, #)", new int[] {-1, 2, MIN, MAX}, BAD);
    s.refusedEach("worst(12, #, 0)", new int[] {-1, 2, MIN, MAX}, NONE);
    s.refusedEach("worst(1, #, 1)", new int[] {-1, 1}, NONE);
    s.refused("worst(21, 7, 0)", BAD);
    s.refused("worst(12, 7, 2)", BAD);
    s.changesNothing("worst(1234, 0, 0)", 2);
    s.changesNothing("worst(1234, 3, 1)", 0);
  }

  private void rings() {
    s.says("Promise 16", "How many RINGS of a set have a LEAK of most (0 .. 9999) or less under p. BAD: set, p, most.");
    s.yard(FOUR);
    s.each("rings(15, 0, #)", new int[] {0, 7, 8, 9, 10, 15, 16, 9999}, 0, 0, 2, 2, 4, 4, 6, 6);
    s.each("rings(15, #, 0)", new int[] {0, 3, 4, 5, 99}, 0, 0, 2, 6, 6);
    s.each("rings(#, 0, 9999)", new int[] {1, 3, 7, 15}, 1, 1, 2, 6);
    s.each("rings(8, 0, #)", new int[] {0, 1}, 1, 1);
    s.refusedEach("rings(#, 0, 9999)", BAD_SETS, BAD);
    s.refusedEach("rings(15, #, 9999)", new int[] {-1, 100, MIN, MAX}, BAD);
    s.refusedEach("rings(15, 0, #)", new int[] {-1, 10000, MIN, MAX}, BAD);
    s.changesNothing("rings(15, 0, 9999)", 6);
    s.yard();
    s.refused("rings(1, 0, 0)", BAD);
  }
}
