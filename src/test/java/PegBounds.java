/** The boundaries of Terms 5 about PEGS and of the promises about them. */
final class PegBounds {
  private static final int NONE = Sentences.NONE, BAD = Sentences.BAD, NOT = Sentences.NOT, EMPTY = Sentences.EMPTY;
  private static final int OUTSIDE = Sentences.OUTSIDE, OTHER = Sentences.OTHER, SIZE = Sentences.SIZE;
  private static final int MIN = Sentences.MIN, MAX = Sentences.MAX;
  private static final int[] NO_PEGS = {-1, 6, MIN, MAX};
  /** A stave on peg 0, a hoop on 1, a board on 2, three bytes on 3, three longs on 4, nothing on 5. */
  static final String HUNG = RingBounds.FOUR + "; hoop(0, 50, 0); board(5); hang(0, 0, 0); hang(1, 1, 0)"
      + "; hang(2, 2, 0); tray(3, 0, 3); tray(4, 1, 3)";

  private final Sentences s;

  PegBounds(Sentences s) {
    this.s = s;
  }

  void test() {
    pegs();
    theThingItself();
    noneOfTheYard();
    hang();
    tray();
    held();
    as();
    asKinds();
    put();
    bytes();
    get();
    fill();
    judge();
    fillAndJudgeRefusals();
    move();
    moveRefusals();
  }

  private void pegs() {
    s.says("Terms 5", "PEGS 0 .. 5 hold nothing (at first)");
    s.yard("stave(0, 1, 1, 0)");
    s.are("held(#)", 0, 0, 0, 0, 0, 0);
    s.refusedEach("held(#)", NO_PEGS, NONE);
    s.are("hang(#, 0, 0)", 1, 1, 1, 1, 1, 1);
    s.refusedEach("hang(#, 0, 0)", NO_PEGS, NONE);
    s.are("held(#)", 1, 1, 1, 1, 1, 1);

    s.says("Terms 5", "or a TRAY: n bytes or longs (0 .. 30).");
    s.yard("tray(0, 0, 30); tray(1, 1, 30); tray(2, 0, 0); tray(3, 1, 0)");
    s.are("held(#)", 4, 5, 4, 5, 0, 0);
    s.are("get(#, 0)", 0, 0, HoopYard.NO, HoopYard.NO);
    s.are("get(#, 29)", 0, 0, HoopYard.NO, HoopYard.NO);
    s.are("get(#, 30)", HoopYard.NO, HoopYard.NO, HoopYard.NO, HoopYard.NO);
    s.are("put(#, 29, 7)", 1, 1, OUTSIDE, OUTSIDE);
    s.are("put(#, 0, 7)", 1, 1, OUTSIDE, OUTSIDE);
    s.are("get(#, 29)", 7, 7);
  }

  private void theThingItself() {
    s.says("Terms 5", "(the thing itself, told as it is now, also when it is shaved");
    s.yard("stave(0, 50, 1, 0); stave(0, 60, 1, 0); hang(0, 0, 0); hang(5, 0, 0); hang(1, 0, 1)");
    s.is("shave(0, 40)", 50);
    s.are("as(#, 0, 0)", 40, 60);
    s.is("as(5, 0, 0)", 40);
    s.is("image()", 2);
    s.is("shave(0, 30)", 40);
    s.are("as(#, 0, 0)", 30, 60);

    s.says("Terms 5", "when it is none of the yard any more; undo() lays copies");
    s.yard("stave(0, 50, 1, 0); hoop(1, 60, 1); board(70); hang(0, 0, 0); hang(1, 1, 0); hang(2, 2, 0)");
    s.does("shave(0, 45); takes(0); takes(1); takes(2)");
    s.are("held(#)", 1, 2, 3);
    s.are("as(#, 0, 0)", 45, OTHER, OTHER);
    s.are("as(#, 1, 1)", OTHER, 60, OTHER);
    s.are("as(#, 2, 0)", OTHER, OTHER, 70);
    s.does("stave(0, 9, 1, 0); hoop(0, 8, 0); board(7); shave(0, 3)");
    s.is("as(0, 0, 0)", 45);
    s.is("as(1, 1, 1)", 60);
    s.is("as(2, 2, 0)", 70);
  }

  private void noneOfTheYard() {
    s.says("Terms 5", "what hangs is none of the yard then, and stays as it is)");
    s.yard("stave(0, 50, 1, 0); image(); hang(0, 0, 0); shave(0, 40)");
    s.is("undo()", 1);
    s.is("as(0, 0, 0)", 40);
    s.is("ofStave(0, 1)", 50);
    s.is("shave(0, 30)", 50);
    s.is("as(0, 0, 0)", 40);
    s.is("hang(1, 0, 0)", 1);
    s.is("as(1, 0, 0)", 30);
    s.is("undo()", 1);
    s.is("shave(0, 20)", 50);
    s.is("as(1, 0, 0)", 30);
    s.is("undo()", 1);
    s.is("ofStave(0, 1)", 50);
    s.yard("hoop(2, 60, 0); board(70); hang(0, 1, 0); hang(1, 2, 0); image(); takes(1); takes(2); undo()");
    s.is("as(0, 1, 2)", 60);
    s.is("as(1, 2, 0)", 70);
  }

  private void hang() {
    s.says("Promise 27", "A PEG holds a STAVE (what 0), a HOOP (1), a BOARD (2), nothing (3; i does not matter): 1.");
    s.yard(HUNG);
    s.is("hang(5, 0, 3)", 1);
    s.is("held(5)", 1);
    s.is("hang(5, 1, 0)", 1);
    s.is("held(5)", 2);
    s.is("hang(5, 2, 0)", 1);
    s.is("held(5)", 3);
    for (int i : new int[] {0, -1, 9, MIN, MAX}) {
      s.is("hang(5, 0, 0)", 1);
      s.is("hang(5, 3, " + i + ")", 1);
      s.is("held(5)", 0);
    }
    s.is("hang(3, 3, 0)", 1);
    s.is("get(3, 0)", HoopYard.NO);

    s.says("Promise 27", "NONE: peg; BAD: what; NONE: i.");
    s.yard(HUNG);
    for (int what = 0; what < 3; what++) {
      int[] noThing = {-1, what == 0 ? 4 : 1, 9, MIN, MAX};
      s.refusedEach("hang(0, " + what + ", #)", noThing, NONE);
      s.refusedEach("hang(#, " + what + ", 0)", NO_PEGS, NONE);
    }
    s.refusedEach("hang(0, #, 0)", new int[] {-1, 4, MIN, MAX}, BAD);
    s.refusedEach("hang(0, #, 99)", new int[] {-1, 4}, BAD);
    s.refusedEach("hang(#, 4, 99)", NO_PEGS, NONE);
    s.refusedEach("hang(#, 3, 0)", NO_PEGS, NONE);
    s.yard();
    s.refusedEach("hang(0, #, 0)", new int[] {0, 1, 2}, NONE);
  }

  private void tray() {
    s.says("Promise 28", "A PEG holds n bytes (sort 0), longs (1), all 0: 1.");
    s.yard(HUNG);
    s.is("put(3, 1, 9)", 1);
    s.is("tray(3, 0, 3)", 1);
    s.are("get(3, #)", 0, 0, 0, HoopYard.NO);
    s.is("tray(3, 1, 2)", 1);
    s.are("get(3, #)", 0, 0, HoopYard.NO);
    s.are("tray(#, 0, 1)", 1, 1, 1, 1, 1, 1);
    s.are("held(#)", 4, 4, 4, 4, 4, 4);

    s.says("Promise 28", "NONE; BAD: sort, n above 30; SIZE: n below 0.");
    s.yard(HUNG);
    s.refusedEach("tray(#, 0, 3)", NO_PEGS, NONE);
    s.refusedEach("tray(#, 2, 31)", NO_PEGS, NONE);
    s.refusedEach("tray(#, 0, -1)", NO_PEGS, NONE);
    s.refusedEach("tray(3, #, 3)", new int[] {-1, 2, MIN, MAX}, BAD);
    s.refusedEach("tray(3, #, -1)", new int[] {-1, 2}, BAD);
    s.refusedEach("tray(3, 0, #)", new int[] {31, 32, MAX}, BAD);
    s.refusedEach("tray(3, 1, #)", new int[] {-1, -2, -31, MIN}, SIZE);
    s.refusedEach("tray(5, 0, #)", new int[] {-1, MIN}, SIZE);
    s.is("held(5)", 0);
  }

  private void held() {
    s.says("Promise 29", "0 nothing, 1 a STAVE, 2 a HOOP, 3 a BOARD, 4 bytes, 5 longs. NONE.");
    s.yard(HUNG);
    s.are("held(#)", 1, 2, 3, 4, 5, 0);
    s.refusedEach("held(#)", NO_PEGS, NONE);
    s.changesNothing("held(3)", 4);
  }

  private void as() {
    s.says("Promise 30", "NONE: peg; BAD: what, kind; EMPTY; OTHER.");
    s.yard(HUNG);
    s.refusedEach("as(#, 0, 0)", NO_PEGS, NONE);
    s.refusedEach("as(#, 3, 9)", NO_PEGS, NONE);
    int[] pegs = {0, 1, 2, 3, 5};
    s.refusedEach("as(#, -1, 0)", pegs, BAD);
    s.refusedEach("as(#, 3, 0)", pegs, BAD);
    s.refusedEach("as(#, 0, -1)", pegs, BAD);
    s.refusedEach("as(#, 0, 5)", pegs, BAD);
    s.refusedEach("as(#, 1, -1)", pegs, BAD);
    s.refusedEach("as(#, 1, 4)", pegs, BAD);
    s.refusedEach("as(#, 2, -1)", pegs, BAD);
    s.refusedEach("as(#, 2, 1)", pegs, BAD);
    s.refusedEach("as(0, #, 0)", new int[] {MIN, MAX}, BAD);
    s.refusedEach("as(0, 0, #)", new int[] {MIN, MAX}, BAD);
    s.refusedEach("as(5, #, 0)", new int[] {0, 1, 2}, EMPTY);
    s.refusedEach("as(0, #, 0)", new int[] {1, 2}, OTHER);
    s.refusedEach("as(1, #, 0)", new int[] {0, 2}, OTHER);
    s.refusedEach("as(2, #, 0)", new int[] {0, 1}, OTHER);
    s.refusedEach("as(3, #, 0)", new int[] {0, 1, 2}, OTHER);
    s.refusedEach("as(4, #, 0)", new int[] {0, 1, 2}, OTHER);
    s.are("as(0, 0, #)", 9, OTHER, OTHER, OTHER, OTHER, BAD);
    s.are("as(1, 1, #)", 50, OTHER, OTHER, OTHER, BAD);
    s.are("as(2, 2, #)", 5, BAD);
    s.changesNothing("as(0, 0, 0)", 9);
  }

  private void asKinds() {
    s.says("Promise 30", "of a KIND, or of one under that: its WIDTH, its SIZE; for a BOARD (2; kind 0): its WIDTH.");
    s.yard();
    for (int kind = 0; kind < 5; kind++) {
      s.does("stave(" + kind + ", " + (10 + kind) + ", 1, 0); hang(" + kind + ", 0, " + kind + ")");
    }
    s.are("as(0, 0, #)", 10, OTHER, OTHER, OTHER, OTHER, BAD);
    s.are("as(1, 0, #)", 11, 11, OTHER, OTHER, OTHER, BAD);
    s.are("as(2, 0, #)", 12, OTHER, 12, OTHER, OTHER, BAD);
    s.are("as(3, 0, #)", 13, OTHER, 13, 13, OTHER, BAD);
    s.are("as(4, 0, #)", 14, 14, OTHER, OTHER, 14, BAD);
    s.yard();
    for (int kind = 0; kind < 4; kind++) {
      s.does("hoop(" + kind + ", " + (10 + kind) + ", 1); hang(" + kind + ", 1, " + kind + ")");
    }
    s.are("as(0, 1, #)", 10, OTHER, OTHER, OTHER, BAD);
    s.are("as(1, 1, #)", 11, 11, OTHER, OTHER, BAD);
    s.are("as(2, 1, #)", 12, OTHER, 12, OTHER, BAD);
    s.are("as(3, 1, #)", 13, 13, OTHER, 13, BAD);
    s.are("as(3, 0, #)", OTHER, OTHER, OTHER, OTHER, OTHER, BAD);
    s.are("as(3, 2, #)", OTHER, BAD);
  }

  private void put() {
    s.says("Promise 31", "NONE; EMPTY; OTHER: it is no TRAY; OUTSIDE.");
    s.yard(HUNG);
    s.refusedEach("put(#, 0, 1)", NO_PEGS, NONE);
    s.refusedEach("put(#, 9, 1)", NO_PEGS, NONE);
    s.refusedEach("put(5, #, 1)", new int[] {0, -1, 9}, EMPTY);
    s.refusedEach("put(#, 0, 1)", new int[] {0, 1, 2}, OTHER);
    s.refusedEach("put(#, -1, 1)", new int[] {0, 1, 2}, OTHER);
    s.refusedEach("put(3, #, 1)", new int[] {-1, 3, MIN, MAX}, OUTSIDE);
    s.refusedEach("put(4, #, 1)", new int[] {-1, 3, MIN, MAX}, OUTSIDE);
    s.each("put(3, #, 1)", new int[] {0, 2}, 1, 1);
    s.are("get(3, #)", 1, 0, 1);
    s.does("tray(4, 1, 0)");
    s.refused("put(4, 0, 1)", OUTSIDE);
  }

  private void bytes() {
    s.says("Promise 31", "Item i of a TRAY becomes v (of bytes its lowest 8 bits): 1.");
    s.yard(HUNG);
    long[] laid = {0, 127, 128, 255, 256, 257, 300, -1, -128, -129, -256, 1L << 32, Long.MAX_VALUE, Long.MIN_VALUE};
    long[] asBytes = {0, 127, -128, -1, 0, 1, 44, -1, -128, 127, 0, 0, -1, 0};
    for (int k = 0; k < laid.length; k++) {
      s.is("put(3, 1, " + laid[k] + ")", 1);
      s.is("get(3, 1)", asBytes[k]);
      s.is("put(4, 1, " + laid[k] + ")", 1);
      s.is("get(4, 1)", laid[k]);
    }
    s.are("get(3, #)", 0, 0, 0);
  }

  private void get() {
    s.says("Promise 32", "Item i of a TRAY. NO: no such PEG, no TRAY, no such place.");
    s.yard(HUNG, "put(3, 0, 5); put(4, 2, 6)");
    s.are("get(3, #)", 5, 0, 0);
    s.are("get(4, #)", 0, 0, 6);
    s.refusedEach("get(#, 0)", NO_PEGS, HoopYard.NO);
    s.refusedEach("get(#, 0)", new int[] {0, 1, 2, 5}, HoopYard.NO);
    s.refusedEach("get(3, #)", new int[] {-1, 3, MIN, MAX}, HoopYard.NO);
    s.refusedEach("get(4, #)", new int[] {-1, 3, MIN, MAX}, HoopYard.NO);
    s.changesNothing("get(4, 2)", 6);
    s.does("tray(4, 1, 0)");
    s.refused("get(4, 0)", HoopYard.NO);

    s.says("Terms 5", "`NO = Long.MIN_VALUE`: There is no such number.");
    s.is("get(6, 0)", Long.MIN_VALUE);
  }

  private void fill() {
    s.says("Promise 33", "become the items of a TRAY, as many as there are of both: how many.");
    s.yard(HUNG);
    // the ring 1234 has GAPS 3 0 4 1, 234 has 0 4 4, 4 has 0
    s.is("fill(3, 15, 0)", 3);
    s.are("get(3, #)", 3, 0, 4, HoopYard.NO);
    s.is("fill(4, 14, 0)", 3);
    s.are("get(4, #)", 0, 4, 4, HoopYard.NO);
    s.does("tray(4, 1, 6); put(4, 4, 8); put(4, 5, -8)");
    s.is("fill(4, 15, 99)", 4);
    s.are("get(4, #)", 3, 0, 4, 1, 8, -8);
    s.is("fill(4, 2, 0)", 1);
    s.are("get(4, #)", 8, 0, 4, 1, 8, -8);
    s.is("fill(4, 3, 0)", 2);
    s.are("get(4, #)", 3, 3, 4, 1, 8, -8);
    s.does("tray(4, 0, 0)");
    s.is("fill(4, 15, 0)", 0);
    s.yard("stave(4, 1, 1, -9); rule(3, 20); tray(0, 0, 1); tray(1, 1, 30)");
    s.are("fill(#, 1, 0)", 1, 1);
    s.are("get(#, 0)", 42, 42);
  }

  private void judge() {
    s.says("Promise 34", "The first item of a TRAY that is not so as fill() would lay it,"
        + " or is beyond all that it would lay;");
    s.yard(HUNG);
    s.is("judge(3, 15, 0)", 0);
    s.is("judge(3, 8, 0)", 1);
    s.does("put(3, 0, 3)");
    s.is("judge(3, 15, 0)", 2);
    s.does("put(3, 2, 4)");
    s.is("judge(3, 15, 0)", NOT);
    s.does("tray(4, 1, 5); fill(4, 15, 0)");
    s.is("judge(4, 15, 0)", 4);
    s.does("put(4, 3, 2)");
    s.is("judge(4, 15, 0)", 3);
    s.does("put(4, 0, 259)");
    s.is("judge(4, 15, 0)", 0);

    s.says("Promise 34", "NOT: all are so. NONE; BAD; EMPTY; OTHER.");
    s.yard(HUNG, "fill(3, 15, 0); tray(4, 1, 4); fill(4, 15, 0)");
    s.refusedEach("judge(#, 15, 0)", new int[] {3, 4}, NOT);
    s.refused("judge(3, 15, 99)", NOT);
    s.does("put(3, 0, 259); tray(2, 0, 0)");
    s.refusedEach("judge(#, 15, 0)", new int[] {2, 3}, NOT);
    refusedLikeFill("judge");
  }

  private void fillAndJudgeRefusals() {
    s.says("Promise 33", "NONE; BAD: set, p; EMPTY; OTHER.");
    refusedLikeFill("fill");
  }

  private void refusedLikeFill(String call) {
    s.yard(HUNG);
    int[] badSets = {0, -1, 16, 512, 1 << 30, MIN, MAX}, badPresses = {-1, 100, MIN, MAX};
    for (int peg : new int[] {0, 1, 3, 5}) {
      s.refusedEach(call + "(" + peg + ", #, 0)", badSets, BAD);
      s.refusedEach(call + "(" + peg + ", 15, #)", badPresses, BAD);
    }
    s.refusedEach(call + "(#, 15, 0)", NO_PEGS, NONE);
    s.refusedEach(call + "(#, 0, -1)", NO_PEGS, NONE);
    s.refused(call + "(5, 15, 0)", EMPTY);
    s.refusedEach(call + "(#, 15, 0)", new int[] {0, 1, 2}, OTHER);
    s.does("takes(0)");
    s.refused(call + "(3, 15, 0)", BAD);
    s.does("stave(0, 1, 1, 0)" + ";stave(0, 1, 1, 0)".repeat(5));
    s.refused(call + "(3, 511, 0)", BAD);
  }

  private void move() {
    s.says("Promise 35", "n items of a TRAY from i on come to another one (or the same) from j on,"
        + " as they all were before: n.");
    s.yard("tray(0, 0, 6); tray(1, 0, 3); tray(2, 1, 2); tray(3, 1, 2)");
    for (int i = 0; i < 6; i++) {
      s.does("put(0, " + i + ", " + (i + 1) + ")");
    }
    s.is("move(0, 0, 0, 2, 4)", 4);
    s.are("get(0, #)", 1, 2, 1, 2, 3, 4);
    s.is("move(0, 2, 0, 0, 4)", 4);
    s.are("get(0, #)", 1, 2, 3, 4, 3, 4);
    s.is("move(0, 0, 0, 0, 6)", 6);
    s.are("get(0, #)", 1, 2, 3, 4, 3, 4);
    s.is("move(0, 3, 1, 0, 3)", 3);
    s.are("get(1, #)", 4, 3, 4);
    s.is("move(0, 0, 1, 2, 1)", 1);
    s.are("get(1, #)", 4, 3, 1);
    s.does("put(2, 0, " + Long.MIN_VALUE + "); put(2, 1, 300)");
    s.is("move(2, 0, 3, 0, 2)", 2);
    s.are("get(3, #)", Long.MIN_VALUE, 300);
    s.changesNothing("move(0, 0, 1, 0, 0)", 0);
    s.changesNothing("move(0, 6, 1, 3, 0)", 0);
    s.changesNothing("move(0, 6, 0, 6, 0)", 0);
  }

  private void moveRefusals() {
    s.says("Promise 35", "NONE: pegs; EMPTY; OTHER: no TRAYS, of unlike sorts;"
        + " OUTSIDE: n, i or j is below 0, or beyond either's end.");
    s.yard(HUNG, "tray(2, 0, 5); put(3, 1, 9)");
    s.refusedEach("move(#, 0, 3, 0, 1)", NO_PEGS, NONE);
    s.refusedEach("move(3, 0, #, 0, 1)", NO_PEGS, NONE);
    s.refusedEach("move(5, 0, #, 0, 1)", NO_PEGS, NONE);
    s.refusedEach("move(#, -1, 0, 0, -1)", NO_PEGS, NONE);
    s.refusedEach("move(#, 0, 5, 0, 1)", new int[] {0, 1, 2, 3, 4, 5}, EMPTY);
    s.refusedEach("move(5, 0, #, 0, 1)", new int[] {0, 1, 2, 3, 4}, EMPTY);
    s.refused("move(5, -1, 3, 0, 1)", EMPTY);
    s.refusedEach("move(#, 0, 3, 0, 1)", new int[] {0, 1, 4}, OTHER);
    s.refusedEach("move(3, 0, #, 0, 1)", new int[] {0, 1, 4}, OTHER);
    s.refused("move(0, 0, 0, 0, 0)", OTHER);
    s.refusedEach("move(3, 0, 4, 0, #)", new int[] {0, -1, 9}, OTHER);
    s.refusedEach("move(3, 0, 2, 0, #)", new int[] {-1, 4, MIN, MAX}, OUTSIDE);
    s.refusedEach("move(3, #, 2, 0, 1)", new int[] {-1, 3, MIN, MAX}, OUTSIDE);
    s.refusedEach("move(3, 0, 2, #, 1)", new int[] {-1, 5, MIN, MAX}, OUTSIDE);
    s.refusedEach("move(2, 0, 3, #, 1)", new int[] {-1, 3}, OUTSIDE);
    s.refusedEach("move(3, #, 2, 0, 0)", new int[] {-1, 4, MIN, MAX}, OUTSIDE);
    s.refusedEach("move(3, 0, 2, #, 0)", new int[] {-1, 6, MIN, MAX}, OUTSIDE);
    s.refusedEach("move(3, 1, 2, 0, #)", new int[] {3, MAX, MAX - 1}, OUTSIDE);
    s.refusedEach("move(2, 0, 3, 1, #)", new int[] {3, MAX, MAX - 1}, OUTSIDE);
    s.refused("move(3, " + MAX + ", 2, " + MAX + ", " + MAX + ")", OUTSIDE);
    s.refused("move(3, " + MAX + ", 2, 0, 1)", OUTSIDE);
    s.refused("move(3, " + MIN + ", 2, " + MIN + ", " + MIN + ")", OUTSIDE);
    s.is("move(3, 0, 2, 2, 3)", 3);
    s.are("get(2, #)", 0, 0, 0, 9, 0, HoopYard.NO);
  }
}
