/** The boundaries of Terms 5 about THE IMAGE, what holds of all answers, and the promises about images. */
final class ImageBounds {
  private static final int NONE = Sentences.NONE, BAD = Sentences.BAD, STATE = Sentences.STATE, FULL = Sentences.FULL;
  private static final int EMPTY = Sentences.EMPTY, OUTSIDE = Sentences.OUTSIDE, OTHER = Sentences.OTHER;
  private static final int NOT = Sentences.NOT, SIZE = Sentences.SIZE;
  private static final int CALLS = 512;
  private static final String FULL_YARD = "stave(0, 9, 2, 0)" + ";stave(3, 8, 1, 1)".repeat(8) + "; hoop(0, 90, 0)"
      + ";hoop(1, 95, 1)".repeat(5) + "; board(9)" + ";board(8)".repeat(6);

  private final Sentences s;

  ImageBounds(Sentences s) {
    this.s = s;
  }

  void test() {
    keeps();
    keepsEachSort();
    fullAndEmpty();
    stays();
    image();
    undo();
    names();
    firstNamed();
    askingChangesNothing();
    manyCalls();
  }

  private void keeps() {
    s.says("Terms 5", "AN IMAGE keeps STAVES, HOOPS, BOARDS, GIRTH, SLACK, TAPER, NEED");
    s.yard("stave(3, 20, 2, 1); stave(4, 30, 3, 2); hoop(1, 90, 1); board(40)");
    s.does("rule(0, 50); rule(1, 5); rule(2, 6); rule(3, -7); image()");
    s.does("rule(0, 60); rule(1, 7); rule(2, 8); rule(3, 9); shave(0, 3); takes(0); takes(1); takes(2)");
    s.does("stave(0, 1, 1, 0); hoop(0, 2, 0); hoop(0, 3, 0); board(4); board(5)");
    s.is("undo()", 2);
    s.are("told(#)", 50, 5, 6, 93, 2, 1, 1);
    s.are("ofStave(0, #)", 3, 20, 2, 101, 22, 102, 47);
    s.are("ofStave(1, #)", 4, 30, 3, 102, 14, 100, 45);
    s.are("ofHoop(0, #)", 1, 90, 1);
    s.does("hang(0, 2, 0)");
    s.is("as(0, 2, 0)", 40);
  }

  /** As many of one sort as there can be, none of the others; all are others when the image is laid back. */
  private void keepsEachSort() {
    s.says("Terms 5", "AN IMAGE keeps STAVES, HOOPS, BOARDS");
    String[] more = {"stave(0, #, 1, 0)", "hoop(0, #, 0)", "board(#)"};
    int[] most = {9, 6, 7};
    for (int what = 0; what < 3; what++) {
      s.yard();
      for (int i = 0; i < most[what]; i++) {
        s.does(more[what].replace("#", "" + (10 + i)));
      }
      s.does("image()" + (";takes(" + what + ")").repeat(most[what]));
      for (int i = 0; i < most[what]; i++) {
        s.does(more[what].replace("#", "" + (30 + i)));
      }
      s.is("undo()", what == 0 ? 9 : 0);
      for (int i = 0; i < most[what]; i++) {
        s.is("hang(0, " + what + ", " + i + ")", 1);
        s.is("as(0, " + what + ", 0)", 10 + i);
      }
      s.is("hang(0, " + what + ", " + most[what] + ")", NONE);
    }
  }

  private void fullAndEmpty() {
    s.says("Promise 37", "All that it keeps is as in THE IMAGE: how many STAVES.");
    s.yard("image()", FULL_YARD);
    s.is("undo()", 0);
    s.are("told(#)", 100, 4, 3, 102, 0, 0, 0);
    s.refused("ofStave(0, 0)", NONE);
    s.refused("ofHoop(0, 0)", NONE);
    s.refused("hang(0, 2, 0)", NONE);
    s.refused("nearest(0)", STATE);
    s.is("stave(0, 5, 1, 0)", 0);

    s.yard(FULL_YARD, "image(); takes(0); takes(1); takes(2); shave(0, 1)");
    s.is("undo()", 9);
    s.each("told(#)", new int[] {4, 5, 6}, 9, 6, 7);
    s.are("ofStave(#, 1)", 9, 8, 8, 8, 8, 8, 8, 8, 8, NONE);
    s.are("ofHoop(#, 1)", 90, 95, 95, 95, 95, 95, NONE);
    s.refused("stave(0, 1, 1, 0)", FULL);
    s.refused("hoop(0, 1, 0)", FULL);
    s.refused("board(1)", FULL);
    s.does("takes(0); takes(1); takes(2)");
    s.is("undo()", 9);
    s.is("ofStave(8, 1)", 8);
  }

  private void stays() {
    s.says("Terms 5", "(PEGS, THE TAPE, how many TEXTS were done stay by undo())");
    s.yard("stave(0, 5, 1, 0); tray(1, 1, 2); put(1, 0, 3); image()");
    s.reads("g50", 1);
    s.does("hang(0, 0, 0); put(1, 0, 4); tray(2, 0, 1); feed(103); feed(54)");
    s.is("undo()", 1);
    s.are("told(#)", 100, 4, 3, 102, 1, 0, 0, 2, 1);
    s.are("held(#)", 1, 5, 4, 0, 0, 0);
    s.are("get(1, #)", 4, 0);
    s.is("as(0, 0, 0)", 5);
    s.is("feed(48)", 3);
    s.is("read()", 1);
    s.is("told(0)", 60);
    s.is("told(8)", 2);
  }

  private void image() {
    s.says("Promise 36", "THE IMAGE is taken: how many STAVES.");
    s.yard();
    s.is("image()", 0);
    s.does("stave(0, 5, 1, 0)");
    s.is("image()", 1);
    s.does("shave(0, 4)" + ";stave(0, 5, 1, 0)".repeat(8));
    s.is("image()", 9);
    s.does("takes(0); shave(0, 3)");
    s.is("undo()", 9);
    s.is("ofStave(0, 1)", 4);
    s.does("shave(0, 2)");
    s.is("undo()", 9);
    s.is("ofStave(0, 1)", 4);
  }

  private void undo() {
    s.says("Promise 37", "STATE: there is none.");
    s.yard();
    s.refused("undo()", STATE);
    s.does("stave(0, 5, 1, 0); feed(103)");
    s.refused("undo()", STATE);
    s.does("image()");
    s.changesNothing("undo()", 1);
    s.does("takes(0)");
    s.is("undo()", 1);
    s.is("undo()", 1);
  }

  private void names() {
    s.says("Terms 5", "NONE (-1) no such number, nothing there; BAD (-2) a number is not as told; STATE (-3) as told;"
        + " FULL (-4); NOT (-5);");
    s.yard("image()");
    s.refused("ofStave(0, 0)", -1);
    s.refused("told(9)", -1);
    s.refused("board(0)", -2);
    s.refused("takes(0)", -3);
    s.refused("fits(1)", -5);
    s.does("board(1)" + ";board(1)".repeat(6));
    s.refused("board(1)", -4);

    s.says("Terms 5", "of PEGS EMPTY (-11), OUTSIDE (-12), OTHER (-13): of another kind, SIZE (-14)");
    s.yard(PegBounds.HUNG);
    s.refused("put(5, 0, 0)", -11);
    s.refused("put(3, 3, 0)", -12);
    s.refused("put(0, 0, 0)", -13);
    s.refused("as(0, 0, 1)", -13);
    s.refused("tray(0, 0, -1)", -14);
  }

  private void firstNamed() {
    s.says("Terms 5", "the first that a call's words name."
        + " What is answered so changes nothing (THE TAPE, as told, apart)");
    s.yard(PegBounds.HUNG);
    s.refused("rule(4, 9999)", NONE);
    s.refused("ofStave(4, 8)", NONE);
    s.refused("shave(4, 0)", NONE);
    s.refused("takes(3)", BAD);
    s.refused("worst(21, 9, 9)", BAD);
    s.refused("worst(12, 9, 9)", BAD);
    s.refused("hang(6, 9, 9)", NONE);
    s.refused("hang(0, 9, 9)", BAD);
    s.refused("tray(6, 2, -1)", NONE);
    s.refused("tray(0, 2, -1)", BAD);
    s.refused("as(6, 9, 9)", NONE);
    s.refused("as(5, 9, 9)", BAD);
    s.refused("as(5, 0, 9)", BAD);
    s.refused("put(5, 9, 0)", EMPTY);
    s.refused("put(0, 9, 0)", OTHER);
    s.refused("fill(6, 0, 0)", NONE);
    s.refused("fill(5, 0, 0)", BAD);
    s.refused("judge(0, 15, 100)", BAD);
    s.refused("move(6, 0, 5, 0, -1)", NONE);
    s.refused("move(0, 0, 5, 0, -1)", EMPTY);
    s.refused("move(0, 0, 3, 0, -1)", OTHER);
    s.refused("move(3, 0, 3, 0, -1)", OUTSIDE);
    s.yard(FULL_YARD);
    s.refused("stave(0, 0, 1, 0)", BAD);
    s.refused("hoop(0, 0, 0)", BAD);
    s.refused("board(0)", BAD);
    s.refused("driest(0, 1)", BAD);
    s.refused("driest(3, 0)", BAD);
    s.refused("driest(3, 600)", FULL);
    s.types("g".repeat(80));
    s.refused("feed(128)", BAD);
    s.refused("feed(0)", FULL);
    s.yard();
    s.refused("nearest(1000)", BAD);
    s.refused("nearest(0)", STATE);
    s.refused("head(0, 0)", BAD);
    s.refused("head(1, 0)", NOT);
    s.refused("tray(0, 0, -1)", SIZE);
  }

  private void askingChangesNothing() {
    s.says("Terms 5", "what is asked changes nothing.");
    s.yard(PegBounds.HUNG, "takes(1); hoop(0, 80, 0); put(3, 1, 7); put(4, 2, 8); board(6); image(); shave(1, 2)");
    s.does("feed(103)");
    String[] asks = {"told(7)", "ofStave(1, 4)", "fits(0)", "sums(9)", "nearest(500)", "least(15, 0, 1)",
      "leak(1234, 0)", "worst(1234, 0, 0)", "rings(15, 0, 99)", "girth(3)", "ofHoop(0, 4)", "press(0)", "wet(15)",
      "driest(15, 600)", "head(3, 2)", "used(5, 21)", "heads(3)", "held(4)", "as(1, 1, 0)", "get(4, 2)",
      "judge(3, 15, 0)"};
    long[] answers = {1, 2, 0, 3, 29, 1234, 8, 2, 6, 97, 8, 8, 504, 1, 2, 110, 2, 5, 50, 8, 0};
    for (int k = 0; k < asks.length; k++) {
      s.changesNothing(asks[k], answers[k]);
    }
  }

  private void manyCalls() {
    s.says("What it is", "An object is used for at most 512 calls after it has been made");
    s.yard();
    for (int call = 1; call < CALLS; call += 2) {
      s.is("tray(0, 1, 30)", 1);
      s.is("get(0, 29)", 0);
    }
    s.yard(FULL_YARD);
    for (int call = 22; call < CALLS; call += 2) {
      s.is("image()", 9);
      s.is("undo()", 9);
    }
    s.yard(FULL_YARD);
    for (int call = 22; call < CALLS; call++) {
      s.is("driest(255, 600)", FULL);
    }
    s.yard(FULL_YARD, "takes(1)");
    for (int call = 23; call < CALLS; call += 2) {
      s.is("rings(255, 0, 9999)", 5040);
      s.is("heads(25)", 5040);
    }
  }
}
