/** Promises 17 to 21: the cask's girth, where hoops rest, what they press, where it leaks. */
public final class HoopsTest {
  private static final Due due = new Due("HoopsTest");

  public static void main(String[] args) {
    girth();
    ofHoop();
    resting();
    stopping();
    press();
    wet();
    driest();
    due.end();
  }

  private static long[] girths(HoopYard y) {
    long[] all = new long[9];
    for (int h = 0; h < 9; h++) {
      all[h] = y.girth(h);
    }
    return all;
  }

  private static long[] presses(HoopYard y) {
    long[] all = new long[9];
    for (int h = 0; h < 9; h++) {
      all[h] = y.press(h);
    }
    return all;
  }

  private static void is(HoopYard y, int hoop, int rests, int grip, int presses) {
    due.is("hoop " + hoop + " rests", y.ofHoop(hoop, 3), rests);
    due.is("hoop " + hoop + " GRIP", y.ofHoop(hoop, 4), grip);
    due.is("hoop " + hoop + " presses", y.ofHoop(hoop, 5), presses);
  }

  private static void girth() {
    HoopYard y = new HoopYard();
    due.are("girth at first", girths(y), 88, 91, 94, 97, 100, 97, 94, 91, 88);
    due.is("girth(-1)", y.girth(-1), HoopYard.NONE);
    due.is("girth(9)", y.girth(9), HoopYard.NONE);
    y.rule(0, 50);
    y.rule(2, 20);
    due.are("1 at least", girths(y), 1, 1, 10, 30, 50, 30, 10, 1, 1);
    y.rule(2, 0);
    due.are("no taper", girths(y), 50, 50, 50, 50, 50, 50, 50, 50, 50);
  }

  private static void ofHoop() {
    HoopYard y = new HoopYard();
    y.hoop(3, 200, 1);
    due.is("KIND", y.ofHoop(0, 0), 3);
    due.is("SIZE", y.ofHoop(0, 1), 200);
    due.is("SIDE", y.ofHoop(0, 2), 1);
    is(y, 0, HoopYard.NOT, HoopYard.NOT, HoopYard.NOT);
    due.is("what 6", y.ofHoop(0, 6), HoopYard.NONE);
    due.is("what -1", y.ofHoop(0, -1), HoopYard.NONE);
    due.is("hoop 1", y.ofHoop(1, 0), HoopYard.NONE);
    due.is("hoop -1", y.ofHoop(-1, 3), HoopYard.NONE);
    y.rule(0, 203);
    is(y, 0, 5, 0, 3);
  }

  private static void resting() {
    HoopYard y = new HoopYard();
    y.hoop(0, 80, 0);
    is(y, 0, 0, 8, 8);
    y.hoop(1, 79, 1);
    is(y, 1, 8, 9, 18);
    y.takes(1);
    y.hoop(2, 89, 1);
    is(y, 1, 7, 2, 1);
    y.takes(1);
    y.hoop(3, 92, 1);
    is(y, 1, 6, 2, 7);
    y.takes(1);
    y.hoop(0, 100, 1);
    is(y, 1, 4, 0, 0);
    y.takes(1);
    y.hoop(0, 101, 1);
    is(y, 1, HoopYard.NOT, HoopYard.NOT, HoopYard.NOT);
    y.takes(1);
    y.hoop(2, 79, 1);
    is(y, 1, 8, 9, 4);
    y.hoop(0, 98, 0);
    is(y, 2, 0, 0, 0);
  }

  private static void stopping() {
    HoopYard y = new HoopYard();
    y.hoop(0, 300, 0);
    y.hoop(0, 94, 0);
    is(y, 0, HoopYard.NOT, HoopYard.NOT, HoopYard.NOT);
    is(y, 1, 2, 0, 0);
    y.hoop(3, 101, 0);
    is(y, 2, 2, 0, 3);
    y.hoop(0, 90, 0);
    is(y, 3, 1, 1, 1);
    y.hoop(0, 97, 0);
    is(y, 4, 1, 0, 0);
    y.hoop(0, 97, 1);
    is(y, 5, 5, 0, 0);
    is(y, 2, 2, 0, 3);

    HoopYard other = new HoopYard();
    other.hoop(0, 100, 0);
    other.hoop(0, 101, 1);
    is(other, 0, 4, 0, 0);
    is(other, 1, HoopYard.NOT, HoopYard.NOT, HoopYard.NOT);
    other.hoop(0, 97, 1);
    other.hoop(1, 600, 1);
    is(other, 3, 5, 0, 0);
  }

  private static void press() {
    HoopYard y = new HoopYard();
    due.are("no hoops", presses(y), 0, 0, 0, 0, 0, 0, 0, 0, 0);
    due.is("press(-1)", y.press(-1), HoopYard.NONE);
    due.is("press(9)", y.press(9), HoopYard.NONE);
    y.hoop(0, 80, 0);
    due.are("a hoop", presses(y), 8, 6, 4, 2, 0, 0, 0, 0, 0);
    y.hoop(2, 86, 1);
    due.are("and a rope", presses(y), 8, 6, 4, 2, 0, 0, 0, 0, 1);
    y.hoop(3, 85, 1);
    due.are("and a double", presses(y), 8, 6, 4, 2, 1, 3, 5, 7, 10);
    y.hoop(0, 400, 0);
    due.are("one stopped at 0 presses nothing", presses(y), 8, 6, 4, 2, 1, 3, 5, 7, 10);
    y.hoop(1, 40, 0);
    due.are("99 at most", presses(y), 99, 99, 96, 92, 89, 89, 89, 89, 90);
  }

  // the least widest gap of 0 5 -3 1 is 4, of the ring 1234
  private static HoopYard cask() {
    HoopYard y = new HoopYard();
    int[] bevels = {0, 5, -3, 1};
    for (int bevel : bevels) {
      y.stave(0, 10, 1, bevel);
    }
    return y;
  }

  private static void wet() {
    HoopYard y = cask();
    due.is("no hoop", y.wet(15), 511);
    due.is("tight by itself", y.wet(6), 0);
    y.hoop(0, 80, 0);
    due.is("dry where it presses 4", y.wet(15), 504);
    due.is("a part: 3 and 4", y.wet(9), 496);
    y.hoop(1, 86, 1);
    due.is("from 8 on as well", y.wet(15), 504 - 256);
    int[] bad = {0, -1, 16, 512, Integer.MIN_VALUE};
    for (int set : bad) {
      due.is("wet(" + set + ")", y.wet(set), HoopYard.BAD);
      due.is("driest(" + set + ", 9)", y.driest(set, 9), HoopYard.BAD);
    }
  }

  private static void driest() {
    HoopYard y = cask();
    y.rule(0, 10);
    y.rule(2, 20);
    // the girth is 1 everywhere but at 4: SIZE 1 rests at 0 and grips nothing, SIZE 2 grips 8 at 4
    due.is("the 2", y.driest(15, 600), 2);
    due.is("2 at most", y.driest(15, 2), 2);
    due.is("1 at most", y.driest(15, 1), HoopYard.NOT);
    due.is("nothing is wet", y.driest(6, 600), HoopYard.NOT);
    due.is("most 0", y.driest(15, 0), HoopYard.BAD);
    due.is("most 601", y.driest(15, 601), HoopYard.BAD);
    y.hoop(0, 10, 0);
    due.is("behind one at 4", y.driest(15, 600), 2);
    y.hoop(0, 2, 1);
    due.is("together with one of the other side", y.driest(15, 600), 2);
    y.takes(1);
    y.hoop(0, 1, 0);
    due.is("behind one at 0", y.driest(15, 600), HoopYard.NOT);
    due.is("nothing was put there", y.told(5), 2);
    for (int i = 0; i < 4; i++) {
      y.hoop(0, 600, 0);
    }
    due.is("six hoops", y.driest(15, 600), HoopYard.FULL);
    due.is("six hoops, a bad set", y.driest(0, 600), HoopYard.BAD);
    due.is("six hoops, a bad most", y.driest(15, 0), HoopYard.BAD);

    HoopYard wide = cask();
    due.is("the least of many that dry all", wide.driest(15, 600), 1);
    wide.rule(0, 30);
    wide.rule(2, 5);
    // girths 10 15 20 25 30: SIZE 1 presses 9 at 0 and dries 0 1 2, any other dries no more
    due.is("three dry heights by the first size", wide.driest(15, 600), 1);
    wide.rule(2, 6);
    // girths 6 12 18 24 30: SIZE 1 presses 5 at 0 and dries but that, 7 dries but 1, ..
    due.is("one dry height each", wide.driest(15, 600), 1);
    wide.rule(2, 7);
    // girths 2 9 16 23 30: SIZE 1 grips 1 at 0 and dries nothing, SIZE 3 grips 6 at 1 and dries 0 1 2
    due.is("six at 1", wide.driest(15, 600), 3);
  }
}
