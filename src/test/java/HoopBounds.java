/** The boundaries of Terms 3 and of the promises about hoops. GIRTHS at first: 88 91 94 97 100 97 94 91 88. */
final class HoopBounds {
  private static final int NONE = Sentences.NONE, BAD = Sentences.BAD, FULL = Sentences.FULL, NOT = Sentences.NOT;
  private static final int MIN = Sentences.MIN, MAX = Sentences.MAX;
  private static final int[] BAD_SETS = {0, -1, 4, 512, 1 << 30, MIN, MAX};
  /** Two staves: the one's GAP with the other is 1 (NEED 2). */
  private static final String GAP_ONE = "stave(0, 9, 1, 0); stave(0, 9, 1, 1)";

  private final Sentences s;

  HoopBounds(Sentences s) {
    this.s = s;
  }

  void test() {
    girth();
    hoops();
    ofHoop();
    rests();
    stops();
    stopsNobody();
    grips();
    press();
    wet();
    driest();
    driestFewest();
    driestRefusals();
  }

  private void girth() {
    s.says("Terms 3", "HEIGHTS 0 .. 8; the cask's GIRTH at a HEIGHT h: the greater of 1 and"
        + " (GIRTH less TAPER times how far h is off 4).");
    s.yard("rule(0, 82); rule(2, 20)");
    s.are("girth(#)", 2, 22, 42, 62, 82, 62, 42, 22, 2);
    s.is("rule(0, 81)", 1);
    s.each("girth(#)", new int[] {0, 1, 8}, 1, 21, 1);
    s.is("rule(0, 80)", 1);
    s.each("girth(#)", new int[] {0, 1, 8}, 1, 20, 1);
    s.is("rule(0, 79)", 1);
    s.each("girth(#)", new int[] {0, 1, 8}, 1, 19, 1);
    s.is("rule(0, 10)", 1);
    s.are("girth(#)", 1, 1, 1, 1, 10, 1, 1, 1, 1);
    s.does("rule(0, 500); rule(2, 0)");
    s.are("girth(#)", 500, 500, 500, 500, 500, 500, 500, 500, 500);

    s.says("Promise 17", "The cask's GIRTH at a HEIGHT. NONE.");
    s.yard();
    s.are("girth(#)", 88, 91, 94, 97, 100, 97, 94, 91, 88);
    s.refusedEach("girth(#)", new int[] {-1, 9, MIN, MAX}, NONE);
    s.changesNothing("girth(0)", 88);
  }

  private void hoops() {
    s.says("Terms 3", "HOOPS 0, 1, .. as they come (6 at most)");
    s.yard();
    for (int i = 0; i < 6; i++) {
      s.is("hoop(0, 1, 0)", i);
    }
    s.refused("hoop(0, 1, 0)", FULL);
    s.is("takes(1)", 5);
    s.is("hoop(0, 2, 1)", 5);
    s.refused("hoop(0, 1, 0)", FULL);

    s.says("Terms 3", "KIND (0 HOOP, 1 WIRE under HOOP, 2 ROPE under HOOP, 3 DOUBLE under WIRE)");
    s.yard();
    s.refusedEach("hoop(#, 1, 0)", new int[] {-1, 4, MIN, MAX}, BAD);
    s.are("hoop(#, 1, 0)", 0, 1, 2, 3);
    s.are("ofHoop(#, 0)", 0, 1, 2, 3);

    s.says("Terms 3", "SIZE (1 .. 600)");
    s.yard();
    s.refusedEach("hoop(0, #, 0)", new int[] {0, 601, -1, MIN, MAX}, BAD);
    s.each("hoop(0, #, 0)", new int[] {1, 600}, 0, 1);
    s.are("ofHoop(#, 1)", 1, 600);

    s.says("Terms 3", "SIDE (0 driven from HEIGHT 0 on, 1 from 8 on)");
    s.yard();
    s.refusedEach("hoop(0, 1, #)", new int[] {-1, 2, MIN, MAX}, BAD);
    s.each("hoop(0, 1, #)", new int[] {0, 1}, 0, 1);
    s.are("ofHoop(#, 2)", 0, 1);
    s.are("ofHoop(#, 3)", 0, 8);

    s.says("Promise 3", "A HOOP more: its number. BAD; FULL.");
    s.yard("hoop(0, 1, 0)" + ";hoop(0, 1, 0)".repeat(5));
    s.refused("hoop(4, 1, 0)", BAD);
    s.refused("hoop(0, 601, 0)", BAD);
    s.refused("hoop(0, 1, 2)", BAD);
    s.refused("hoop(3, 600, 1)", FULL);
  }

  private void ofHoop() {
    s.says("Promise 18", "3 where it RESTS (NOT), 4 GRIP (NOT), 5 what it presses (NOT). NONE.");
    s.yard("hoop(3, 101, 1); hoop(3, 95, 1)");
    s.are("ofHoop(0, #)", 3, 101, 1, NOT, NOT, NOT);
    s.refusedEach("ofHoop(0, #)", new int[] {3, 4, 5}, NOT);
    s.are("ofHoop(1, #)", 3, 95, 1, 5, 2, 7);
    s.refusedEach("ofHoop(0, #)", new int[] {-1, 6, MIN, MAX}, NONE);
    s.refusedEach("ofHoop(#, 3)", new int[] {-1, 2, 6, MIN, MAX}, NONE);
    s.refused("ofHoop(2, 6)", NONE);
    s.changesNothing("ofHoop(1, 3)", 5);
  }

  private void rests() {
    s.says("Terms 3", "RESTS of a HOOP: the HEIGHT nearest its own end (0; 8), and 4 at the farthest,"
        + " at which the cask's GIRTH is SIZE or more");
    int[] sizes = {1, 88, 89, 91, 92, 94, 95, 97, 98, 100};
    int[] depths = {0, 0, 1, 1, 2, 2, 3, 3, 4, 4};
    for (int k = 0; k < sizes.length; k++) {
      s.yard();
      s.is("hoop(0, " + sizes[k] + ", 0)", 0);
      s.is("hoop(0, " + sizes[k] + ", 1)", 1);
      s.are("ofHoop(#, 3)", depths[k], 8 - depths[k]);
    }
    s.yard("rule(2, 0); hoop(0, 100, 0); hoop(0, 100, 1)");
    s.are("ofHoop(#, 3)", 0, 8);

    s.says("Terms 3", "NOT, if the cask's GIRTH at 4 is less than SIZE and no such HOOP stops it.");
    s.yard("hoop(0, 101, 0); hoop(0, 101, 1); hoop(1, 600, 0)");
    s.are("ofHoop(#, 3)", NOT, NOT, NOT);
    s.is("rule(0, 101)", 1);
    s.are("ofHoop(#, 3)", 4, 4, 4);
    s.is("rule(2, 0)", 1);
    s.are("ofHoop(#, 3)", 0, 8, 0);
  }

  private void stops() {
    s.says("Terms 3", "it goes no farther than to the HEIGHT at which a HOOP of its SIDE with a lesser number RESTS");
    s.yard("hoop(0, 94, 0); hoop(0, 97, 0); hoop(0, 92, 0); hoop(0, 91, 0); hoop(0, 88, 0)");
    s.are("ofHoop(#, 3)", 2, 2, 2, 1, 0);
    s.yard("hoop(0, 94, 1); hoop(0, 97, 1); hoop(0, 92, 1); hoop(0, 91, 1); hoop(0, 88, 1)");
    s.are("ofHoop(#, 3)", 6, 6, 6, 7, 8);

    s.says("Terms 3", "(it RESTS there, too, if it would go on;");
    s.yard("hoop(0, 100, 0); hoop(0, 101, 0); hoop(0, 600, 0); hoop(0, 95, 1); hoop(0, 600, 1)");
    s.are("ofHoop(#, 3)", 4, 4, 4, 5, 5);
    s.yard("hoop(0, 1, 0); hoop(0, 600, 0); hoop(0, 1, 1); hoop(0, 600, 1)");
    s.are("ofHoop(#, 3)", 0, 0, 8, 8);

    s.says("Terms 3", "of several the HEIGHT nearest its own end;");
    s.yard("hoop(0, 97, 0); hoop(0, 91, 0); hoop(0, 100, 0); hoop(0, 97, 1); hoop(0, 91, 1); hoop(0, 100, 1)");
    s.are("ofHoop(#, 3)", 3, 1, 1, 5, 7, 7);
  }

  private void stopsNobody() {
    s.says("Terms 3", "a HOOP that does not REST stops nobody)");
    s.yard("hoop(0, 101, 0); hoop(0, 97, 0); hoop(0, 101, 1); hoop(0, 101, 1); hoop(0, 98, 1)");
    s.are("ofHoop(#, 3)", NOT, 3, NOT, NOT, 4);

    s.says("Terms 3", "a HOOP of its SIDE with a lesser number RESTS");
    s.yard("hoop(0, 92, 1); hoop(0, 97, 0); hoop(0, 101, 0); hoop(0, 90, 0)");
    s.are("ofHoop(#, 3)", 6, 3, 3, 1);
    s.yard("hoop(0, 100, 1); hoop(0, 101, 0); hoop(0, 100, 0)");
    s.are("ofHoop(#, 3)", 4, NOT, 4);
  }

  private void grips() {
    s.says("Terms 3", "GRIP at where it RESTS: the cask's GIRTH there less SIZE (0 at least);"
        + " what it presses: HOOP: GRIP;");
    s.yard("hoop(0, 87, 0); hoop(0, 88, 0); hoop(0, 89, 0); hoop(0, 600, 0)");
    s.are("ofHoop(#, 4)", 1, 0, 0, 0);
    s.are("ofHoop(#, 5)", 1, 0, 0, 0);

    s.says("Terms 3", "WIRE: twice a HOOP's; ROPE: half of a HOOP's, cut; DOUBLE: 3 more than a WIRE.");
    s.yard("hoop(2, 88, 0); hoop(2, 87, 0); hoop(2, 86, 0); hoop(2, 85, 0); hoop(1, 85, 0); hoop(3, 85, 0)");
    s.are("ofHoop(#, 4)", 0, 1, 2, 3, 3, 3);
    s.are("ofHoop(#, 5)", 0, 0, 1, 1, 6, 9);
    s.yard("hoop(1, 600, 0); hoop(1, 88, 0); hoop(3, 88, 0); hoop(3, 600, 0)");
    s.are("ofHoop(#, 5)", NOT, 0, 3, 3);
  }

  private void press() {
    s.says("Terms 3", "PRESS at a HEIGHT: over all HOOPS that REST: what it presses less twice how far"
        + " the HEIGHT where it RESTS is off");
    s.yard("hoop(3, 101, 0); hoop(3, 101, 1)");
    s.are("press(#)", 0, 0, 0, 0, 0, 0, 0, 0, 0);

    s.says("Terms 3", "(each 0 at least), together (99 at most)");
    s.yard("rule(2, 0); hoop(0, 95, 0)");
    s.are("press(#)", 5, 3, 1, 0, 0, 0, 0, 0, 0);
    s.is("hoop(0, 99, 1)", 1);
    s.are("press(#)", 5, 3, 1, 0, 0, 0, 0, 0, 1);
    s.yard("rule(2, 0); hoop(0, 1, 0)");
    s.are("press(#)", 99, 97, 95, 93, 91, 89, 87, 85, 83);
    s.is("hoop(0, 99, 0)", 1);
    s.are("press(#)", 99, 97, 95, 93, 91, 89, 87, 85, 83);
    s.is("hoop(0, 1, 1)", 2);
    s.are("press(#)", 99, 99, 99, 99, 99, 99, 99, 99, 99);

    s.says("Promise 19", "PRESS. NONE.");
    s.yard("hoop(0, 80, 0)");
    s.are("press(#)", 8, 6, 4, 2, 0, 0, 0, 0, 0);
    s.refusedEach("press(#)", new int[] {-1, 9, MIN, MAX}, NONE);
    s.changesNothing("press(0)", 8);
  }

  private void wet() {
    s.says("Terms 3", "HEIGHTS (bits) at which the LEAST RING of a told set under PRESS there has a LEAK above 0.");
    s.yard(GAP_ONE, "rule(2, 0)");
    s.is("wet(3)", 511);
    s.is("hoop(0, 100, 0)", 0);
    s.is("wet(3)", 511);
    s.does("takes(1); hoop(0, 99, 0)");
    s.is("wet(3)", 510);
    s.does("takes(1); hoop(0, 97, 0)");
    s.is("wet(3)", 508);
    s.is("hoop(0, 99, 1)", 1);
    s.is("wet(3)", 252);
    s.is("wet(2)", 0);
    // of these the ring 1234 is tight under 4, 1243 under 5, 1324 under 5
    s.yard(RingBounds.FOUR, "rule(2, 0); hoop(0, 94, 0)");
    s.are("press(#)", 6, 4, 2, 0);
    s.is("wet(15)", 508);

    s.says("Promise 20", "WET. BAD: set.");
    s.yard(GAP_ONE);
    s.refusedEach("wet(#)", BAD_SETS, BAD);
    s.changesNothing("wet(3)", 511);
    s.is("takes(0)", 1);
    s.refusedEach("wet(#)", new int[] {2, 3}, BAD);
    s.changesNothing("wet(1)", 511);
  }

  private void driest() {
    s.says("Promise 21", "The least SIZE of a HOOP of KIND 0 and SIDE 0, from 1 to most (1 .. 600), by which,");
    // GIRTHS are 1 but at 4: SIZE 1 grips nothing at 0, SIZE 2 grips 8 at 4 and SIZE 3 dries no more HEIGHTS than that
    s.yard(GAP_ONE, "rule(0, 10); rule(2, 20)");
    s.each("driest(3, #)", new int[] {1, 2, 3, 600}, NOT, 2, 2, 2);
    s.refusedEach("driest(3, #)", new int[] {0, -1, 601, MIN, MAX}, BAD);
    s.changesNothing("driest(3, 600)", 2);
    s.yard(GAP_ONE, "rule(0, 500); rule(2, 0)");
    s.each("driest(3, #)", new int[] {1, 600}, 1, 1);

    s.says("Promise 21", "were it one HOOP more behind all others,");
    s.yard(GAP_ONE, "rule(0, 10); rule(2, 20); hoop(0, 1, 0)");
    s.is("driest(3, 600)", NOT);
    s.yard(GAP_ONE, "rule(0, 10); rule(2, 20); hoop(0, 11, 0); hoop(0, 1, 1)");
    s.is("driest(3, 600)", 2);
    // more HOOPS than STAVES: the last one of SIDE 0 stops it, those of SIDE 1 don't
    s.yard(GAP_ONE, "rule(0, 10); rule(2, 20); hoop(0, 11, 0); hoop(0, 1, 1); hoop(0, 1, 1)");
    s.is("driest(3, 600)", 2);
    s.is("hoop(0, 1, 0)", 3);
    s.is("driest(3, 600)", NOT);
    s.does("takes(1); hoop(0, 10, 0)");
    s.is("driest(3, 600)", 2);
    // a GAP of 12: at 4 the one there presses 4 and SIZE 2 presses 8; with one that presses 3 it is not enough
    s.yard("stave(0, 9, 1, 7); rule(0, 10); rule(2, 20); hoop(0, 6, 1)");
    s.is("wet(1)", 511);
    s.is("driest(1, 600)", 2);
    s.does("takes(1); hoop(0, 7, 1)");
    s.is("driest(1, 600)", NOT);
    s.is("told(5)", 1);
  }

  private void driestFewest() {
    s.says("Promise 21", "fewest HEIGHTS were WET (of the set), fewer than now.");
    // GIRTHS 2 9 16 23 30: SIZE 1 dries 0, 2 nothing, 3 dries 0 .. 3, 10 dries 0 .. 4, others no more than five
    s.yard(GAP_ONE, "rule(0, 30); rule(2, 7)");
    s.each("driest(3, #)", new int[] {1, 2, 3, 9, 10, 600}, 1, 1, 3, 3, 10, 10);
    // dry are 1 .. 7 by one that grips 8 at 4; another one there dries no more of them
    s.yard(GAP_ONE, "rule(0, 10); rule(2, 20); hoop(0, 2, 1)");
    s.is("wet(3)", 257);
    s.is("driest(3, 600)", NOT);
    s.yard(GAP_ONE, "rule(2, 0); hoop(0, 1, 0)");
    s.is("wet(3)", 0);
    s.is("driest(3, 600)", NOT);
  }

  private void driestRefusals() {
    s.says("Promise 21", "BAD: set, most; FULL: there are 6 HOOPS; NOT.");
    s.yard(GAP_ONE);
    s.refusedEach("driest(#, 600)", BAD_SETS, BAD);
    s.refusedEach("driest(3, #)", new int[] {0, 601}, BAD);
    s.refused("driest(2, 600)", NOT);
    s.does("hoop(0, 600, 0)" + ";hoop(0, 600, 0)".repeat(4));
    s.changesNothing("driest(3, 600)", 1);
    s.is("hoop(0, 600, 0)", 5);
    s.refused("driest(3, 600)", FULL);
    s.refused("driest(2, 600)", FULL);
    s.refusedEach("driest(#, 600)", new int[] {0, 4}, BAD);
    s.refusedEach("driest(3, #)", new int[] {0, 601}, BAD);
  }
}
