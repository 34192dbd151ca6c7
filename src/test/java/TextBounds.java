/** The boundaries of THE TAPE and of the TEXTS on it. */
final class TextBounds {
  private static final int BAD = Sentences.BAD, FULL = Sentences.FULL, MIN = Sentences.MIN, MAX = Sentences.MAX;

  private final Sentences s;

  TextBounds(Sentences s) {
    this.s = s;
  }

  void test() {
    tape();
    feed();
    statements();
    numbers();
    signs();
    blanks();
    textFaults();
    outOfBounds();
    noRoom();
    nothingIsDone();
    read();
  }

  private void faults(int[] places, String... texts) {
    s.is("told(7)", 0);
    if (places.length != texts.length) {
      throw new IllegalArgumentException("as many places as texts");
    }
    for (int k = 0; k < texts.length; k++) {
      s.fault(texts[k], -100 - places[k]);
    }
  }

  private void undoable(int place, String... texts) {
    for (String text : texts) {
      s.fault(text, -300 - place);
    }
  }

  private void tape() {
    s.says("Terms 5", "THE TAPE (80 bytes at most)");
    s.yard();
    for (int k = 1; k <= 80; k++) {
      s.is("feed(103)", k);
    }
    s.refused("feed(103)", FULL);
    s.is("told(7)", 80);
    s.is("read()", -101);
    s.is("feed(103)", 1);
    s.yard();
    s.reads("t1" + ";t2".repeat(26), 27);
    s.are("told(#)", 100, 4, 2, 102, 0, 0, 0, 0, 1);
  }

  private void feed() {
    s.says("Promise 25", "A byte (0 .. 127) comes behind THE TAPE's: how many it has. BAD; FULL.");
    s.yard();
    s.refusedEach("feed(#)", new int[] {-1, 128, 256 + 103, MIN, MAX}, BAD);
    s.each("feed(#)", new int[] {103, 49, 48}, 1, 2, 3);
    s.refusedEach("feed(#)", new int[] {-1, 128}, BAD);
    s.is("read()", 1);
    s.is("told(0)", 10);
    s.each("feed(#)", new int[] {0, 127}, 1, 2);
    s.is("read()", -100);
    s.types("g".repeat(80));
    s.refusedEach("feed(#)", new int[] {-1, 128}, BAD);
    s.refusedEach("feed(#)", new int[] {0, 127}, FULL);
  }

  private void statements() {
    s.says("Terms 5", "STATEMENTS with ; between, one at least");
    s.yard();
    faults(new int[] {0, 0, 4, 4, 0}, "", ";", "g10;", "g10;;t1", ";g10");
    s.reads("g10", 1);
    s.reads("g11;t1", 2);

    s.says("Terms 5", "s KIND,WIDTH,THICK,BEVEL; h KIND,SIZE,SIDE; b WIDTH; g GIRTH; t TAPER.");
    s.yard();
    faults(new int[] {6, 6, 7, 8, 4, 4, 5, 6}, "s0,1,1", "s0,1,1;b1", "s0,1,1,", "s0,1,1,0,1", "h0,1", "h0,1;b1",
        "h0,1,", "h0,1,0,0");
    faults(new int[] {2, 3, 2, 1, 1, 1, 1, 1}, "b1,1", "g10,1", "t1,1", "b", "g", "t", "s", "h");
    faults(new int[] {0, 0, 0, 0, 0, 0, 4}, "x1", "S0,1,1,0", "G10", "n1", "a1", "k5", "g10;n1");
    s.reads("s4,99,9,-9;h3,600,1;b99;g500;t20", 5);
    s.are("told(#)", 500, 4, 20, 102, 1, 1, 1, 0, 1);
    s.are("ofStave(0, #)", 4, 99, 9, 91);
    s.are("ofHoop(0, #)", 3, 600, 1);
    s.is("hang(0, 2, 0)", 1);
    s.is("as(0, 2, 0)", 99);
  }

  private void numbers() {
    s.says("Terms 5", "1 to 4 digits;");
    s.yard();
    faults(new int[] {1, 1, 5, 5, 7, 1, 3, 6}, "g", "g;t1", "g00010", "g12345", "h0,00001,0", "s,1,1,0", "s0,,1,0",
        "s0,1,1");
    faults(new int[] {5, 6, 5, 8}, "t00000", "t-00000", "b00001", "s0,1,1,-");
    s.reads("g0010", 1);
    s.is("told(0)", 10);
    s.reads("g010;t1;t01;t001;t0001;t0000", 6);
    s.is("told(2)", 0);
    s.reads("s0000,0099,0009,0009;h0003,0600,0001", 2);
    s.are("ofStave(0, #)", 0, 99, 9, 109);
    s.are("ofHoop(0, #)", 3, 600, 1);
  }

  private void signs() {
    s.says("Terms 5", "Numbers: - or none (ahead of 0, too)");
    s.yard();
    faults(new int[] {2, 2, 1, 2, 6, 2}, "g-", "g--1", "g+1", "g-;", "g-00010", "t-,");
    undoable(0, "g-10", "g-0010", "t-1", "t-9999", "b-1", "s-1,1,1,0", "s0,-1,1,0", "s0,1,-1,0", "h0,1,-1");
    s.reads("t-0", 1);
    s.is("told(2)", 0);
    s.reads("t7;t-0000", 2);
    s.is("told(2)", 0);
    s.reads("s-0,1,1,-0;s0,1,1,-9;s0,1,1,-0009;h-0,1,-0", 4);
    s.are("ofStave(#, 3)", 100, 91, 91);
    s.are("ofHoop(0, #)", 0, 1, 0);
  }

  private void blanks() {
    s.says("Terms 5", "no blanks; the letter stands right ahead of the first number.");
    s.yard();
    faults(new int[] {0, 1, 3, 3, 4, 3, 2}, " g10", "g 10", "g10 ", "g10\n", "g10; t1", "g10 ;t1", "s0 ,1,1,0");
    faults(new int[] {3, 1, 0, 1, 1, 0}, "s0, 1,1,0", "g,10", "10g", "s,0,1,1,0", "gg10", "\tg10");
  }

  private void textFaults() {
    s.says("Terms 5", "FAULT: -100 less the place (from 0) of the first byte with which none begins so");
    s.yard();
    faults(new int[] {0, 3, 5, 8, 2}, "\0", "g10\177", "g10;h;", "g10;b5;t,", "b1b2");
    String most = "t1;".repeat(26);
    faults(new int[] {78, 79, 79}, most + "x1", most + "t;", most + "tt");

    s.says("Terms 5", "(THE TAPE's size, if it ends too early)");
    s.yard();
    faults(new int[] {0, 1, 2, 2, 4, 8, 79}, "", "s", "s0", "g-", "g10;", "g10;h0,1", most + "t");
    String begun = "t1;".repeat(25);
    faults(new int[] {80, 80, 80, 80}, begun + "g100;", begun + "g10;t", begun + "h0,1,", begun + "h00,-");
  }

  private void outOfBounds() {
    s.says("Terms 5", "if there is none: -300 less the place of the letter of the first STATEMENT that can't be done"
        + " (a number out of its bounds");
    s.yard();
    String[] bad = {"s-1,1,1,0", "s5,1,1,0", "s0,0,1,0", "s0,100,1,0", "s0,1,0,0", "s0,1,10,0", "s0,1,1,-10",
      "s0,1,1,10", "s9999,1,1,0", "h-1,1,0", "h4,1,0", "h0,0,0", "h0,601,0", "h0,1,-1", "h0,1,2", "b0", "b100",
      "b9999", "g9", "g501", "g-9999", "t-1", "t21"};
    undoable(0, bad);
    for (String statement : bad) {
      undoable(4, "g50;" + statement, "g50;" + statement + ";b1", "g50;" + statement + ";b0");
    }
    undoable(78, "t1;".repeat(26) + "b0");
    s.fault("b0;x", -103);
    s.reads("s0,1,1,-9;s4,99,9,9;h0,1,0;h3,600,1;b1;b99;g10;g500;t0;t20", 10);
  }

  private void noRoom() {
    s.says("Terms 5", "no room) by what those ahead of it would have done.");
    s.yard("stave(0, 1, 1, 0)" + ";stave(0, 1, 1, 0)".repeat(6));
    undoable(18, "s0,1,1,0;s0,1,1,0;s0,1,1,0;b0", "s0,1,1,0;s0,1,1,0;b0;s0,1,1,0");
    undoable(21, "s0,1,1,0;s0,1,1,0;b5;s0,1,1,0");
    s.reads("s0,1,1,0;s0,1,1,0", 2);
    s.is("told(4)", 9);
    undoable(0, "s0,1,1,0");
    undoable(10, "b1;h0,1,0;s0,1,1,0");
    s.yard("hoop(0, 1, 0); hoop(0, 1, 0); hoop(0, 1, 0); hoop(0, 1, 0); hoop(0, 1, 0)");
    undoable(7, "h0,1,0;h0,1,0");
    s.reads("h0,1,0", 1);
    undoable(0, "h0,1,0");
    undoable(6, "t1;b1;h0,1,0");
    s.yard("board(1); board(1); board(1); board(1); board(1); board(1)");
    undoable(3, "b1;b1", "b1;b1;b0");
    s.reads("b1;s0,1,1,0;h0,1,0", 3);
    undoable(0, "b1");
    undoable(10, "t1;h0,1,0;b1");
    s.is("told(6)", 7);
    s.yard();
    undoable(21, "b1;b1;b1;b1;b1;b1;b1;b1");
    undoable(42, "h0,1,0;h0,1,0;h0,1,0;h0,1,0;h0,1,0;h0,1,0;h0,1,0");
  }

  private void nothingIsDone() {
    s.says("Terms 5", "Nothing is done then.");
    s.yard("stave(0, 5, 1, 0); hoop(0, 7, 0); board(9); rule(0, 77); rule(2, 7); image()");
    s.fault("s0,1,1,0;h0,1,0;b1;g50;t5;b0", -326);
    s.fault("s0,1,1,0;h0,1,0;b1;g50;t5;b", -127);
    s.fault("s0,1,1,0;h0,1,0;b1;g50;t5;x", -126);
    s.are("told(#)", 77, 4, 7, 102, 1, 1, 1, 0, 0);
    s.reads("s0,1,1,0;h0,1,0;b1;g50;t5;b1", 6);
    s.are("told(#)", 50, 4, 5, 102, 2, 2, 3, 0, 1);
  }

  private void read() {
    s.says("Promise 26", "THE TAPE, which is empty then (by a FAULT of either kind, too), is a TEXT, and done");
    s.yard();
    s.reads("g50", 1);
    s.is("told(7)", 0);
    s.is("read()", -100);
    s.types("g6");
    s.is("read()", -300);
    s.is("told(7)", 0);
    s.types("g70;");
    s.is("read()", -104);
    s.is("told(7)", 0);
    s.is("told(8)", 1);
    s.is("told(0)", 50);
    s.reads("g60", 1);
    s.is("told(8)", 2);
    s.is("told(0)", 60);

    s.says("Promise 26", "how many STATEMENTS; the FAULT.");
    s.yard();
    s.reads("t1", 1);
    s.reads("t2;t3", 2);
    s.reads("t2;t3;t4", 3);
    s.is("told(2)", 4);
    s.is("read()", -100);
    s.reads("t9;t21;t", -108);
    s.reads("t9;t21;t8", -303);
    s.is("told(2)", 4);
  }
}
