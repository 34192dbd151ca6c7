/** Promises 25 and 26: the tape and the texts on it. */
public final class TextsTest {
  private static final Due due = new Due("TextsTest");

  public static void main(String[] args) {
    feed();
    good();
    textFaults();
    deedFaults();
    room();
    fullTape();
    due.end();
  }

  private static int read(HoopYard y, String text) {
    for (int k = 0; k < text.length(); k++) {
      due.is("feed " + text.charAt(k), y.feed(text.charAt(k)), k + 1);
    }
    int answer = y.read();
    due.is("the tape is empty behind " + text, y.told(7), 0);
    return answer;
  }

  private static void feed() {
    HoopYard y = new HoopYard();
    due.is("feed(-1)", y.feed(-1), HoopYard.BAD);
    due.is("feed(128)", y.feed(128), HoopYard.BAD);
    due.is("feed(0)", y.feed(0), 1);
    due.is("feed(127)", y.feed(127), 2);
    due.is("told(7)", y.told(7), 2);
    for (int k = 3; k <= 80; k++) {
      due.is("feed " + k, y.feed('g'), k);
    }
    due.is("feed 81", y.feed('g'), HoopYard.FULL);
    due.is("a bad one on a full tape", y.feed(128), HoopYard.BAD);
    due.is("told(7)", y.told(7), 80);
    due.is("read", y.read(), -100);
    due.is("told(7) behind", y.told(7), 0);
    due.is("feed again", y.feed('g'), 1);
  }

  private static void good() {
    HoopYard y = new HoopYard();
    due.is("all sorts", read(y, "s4,20,3,-9;h3,600,1;b99;g500;t0;s0,001,0009,-0;g-0010"), -347);
    due.is("nothing was done", y.told(4), 0);
    due.is("all sorts", read(y, "s4,20,3,-9;h3,600,1;b99;g500;t0;s0,001,0009,-0"), 6);
    due.is("staves", y.told(4), 2);
    due.is("KIND", y.ofStave(0, 0), 4);
    due.is("WIDTH", y.ofStave(0, 1), 20);
    due.is("THICK", y.ofStave(0, 2), 3);
    due.is("BEVEL", y.ofStave(0, 3), 91);
    due.is("WIDTH 001", y.ofStave(1, 1), 1);
    due.is("THICK 0009", y.ofStave(1, 2), 9);
    due.is("BEVEL -0", y.ofStave(1, 3), 100);
    due.is("hoop KIND", y.ofHoop(0, 0), 3);
    due.is("hoop SIZE", y.ofHoop(0, 1), 600);
    due.is("hoop SIDE", y.ofHoop(0, 2), 1);
    due.is("a board of 99", y.used(49, 1), 99 * 98);
    due.is("GIRTH", y.told(0), 500);
    due.is("TAPER", y.told(2), 0);
    due.is("TEXTS", y.told(8), 1);
    due.is("one statement", read(y, "g10"), 1);
    due.is("the last of two", read(y, "g20;g-0;g30"), -304);
    due.is("GIRTH as before", y.told(0), 10);
    due.is("the last of two", read(y, "g20;g0030"), 2);
    due.is("GIRTH", y.told(0), 30);
    due.is("TEXTS", y.told(8), 3);
  }

  private static void textFaults() {
    HoopYard y = new HoopYard();
    String[] texts = {"", "x", " g10", "S0", ";", "1", "g", "g-", "g;", "g--1", "g 10", "g10 ", "g10,", "g12345",
      "g-12345", "g10;", "g10;;", "g10;x", "s0,1,1", "s0,1,1;", "s0,1,1,", "s0,1,1,1,1", "s0,1,1,1s", "h0,1,", "h,1",
      "h0;1", "b1b2", "t1-", "s0,1,,1", "h0,1,1,1", "b1,1", "g+5", "g10;t3;s0,1,1,0;h0,1,0;b", "b99;h9,9"};
    int[] places = {0, 0, 0, 0, 0, 0, 1, 2, 1, 2, 1, 3, 3, 5,
      6, 4, 4, 4, 6, 6, 7, 8, 8, 5, 1,
      2, 2, 2, 5, 6, 2, 1, 24, 8};
    due.is("as many", texts.length, places.length);
    for (int k = 0; k < texts.length; k++) {
      due.is("text '" + texts[k] + "'", read(y, texts[k]), -100 - places[k]);
    }
    due.is("no TEXT was done", y.told(8), 0);
    due.is("no stave", y.told(4), 0);
    due.is("GIRTH", y.told(0), 100);
    due.is("a fault of the text is ahead of one of its deeds", read(y, "g9;x"), -103);
  }

  private static void deedFaults() {
    HoopYard y = new HoopYard();
    String[] bad = {"s5,1,1,1", "s-1,1,1,1", "s0,0,1,1", "s0,100,1,1", "s0,1,0,1", "s0,1,10,1", "s0,1,1,-10",
      "s0,1,1,10", "h4,1,0", "h-1,1,0", "h0,0,0", "h0,601,0", "h0,1,2", "h0,1,-1", "b0", "b100", "b-1", "g9", "g501",
      "g-100", "t-1", "t21", "t9999"};
    for (String statement : bad) {
      due.is(statement, read(y, statement), -300);
      due.is("b9;" + statement, read(y, "b9;" + statement + ";b9"), -303);
    }
    due.is("no board", y.told(6), 0);
    due.is("no stave", y.told(4), 0);
    due.is("no hoop", y.told(5), 0);
    due.is("GIRTH", y.told(0), 100);
    due.is("TAPER", y.told(2), 3);
    due.is("no TEXT was done", y.told(8), 0);
    due.is("the first of two faults", read(y, "g10;t21;g9"), -304);
    due.is("GIRTH still", y.told(0), 100);
  }

  private static void room() {
    HoopYard y = new HoopYard();
    for (int k = 0; k < 7; k++) {
      y.stave(0, 1, 1, 0);
    }
    due.is("the tenth", read(y, "s0,1,1,0;s0,1,1,0;s0,1,1,0;b1"), -318);
    due.is("none was made", y.told(4), 7);
    due.is("no board", y.told(6), 0);
    due.is("to nine", read(y, "s0,1,1,0;s0,1,1,0"), 2);
    due.is("nine", y.told(4), 9);
    due.is("the tenth", read(y, "s0,1,1,0"), -300);
    due.is("the eighth board", read(y, "b1;b1;b1;b1;b1;b1;b1;b1"), -321);
    due.is("no board", y.told(6), 0);
    due.is("seven boards", read(y, "b1;b1;b1;b1;b1;b1;b1"), 7);
    due.is("the seventh hoop", read(y, "h0,1,0;h0,1,0;h0,1,0;h0,1,0;h0,1,0;h0,1,0;h0,1,0"), -342);
    due.is("no hoop", y.told(5), 0);
    due.is("six hoops", read(y, "h0,1,0;h0,1,0;h0,1,0;h0,1,0;h0,1,0;h0,1,0"), 6);
    due.is("TEXTS", y.told(8), 3);
    due.is("rules want no room", read(y, "g50;t5"), 2);
    due.is("GIRTH", y.told(0), 50);
  }

  private static void fullTape() {
    HoopYard y = new HoopYard();
    StringBuilder text = new StringBuilder("t1");
    for (int k = 1; k < 27; k++) {
      text.append(";t").append(k % 10);
    }
    due.is("80 bytes", text.length(), 80);
    due.is("27 statements", read(y, text.toString()), 27);
    due.is("TAPER", y.told(2), 6);
    text.setCharAt(79, ';');
    due.is("a fault at the last byte", read(y, text.toString()), -179);
    text.setLength(77);
    due.is("ends too early at 80", read(y, text + ";g-"), -180);
  }
}
