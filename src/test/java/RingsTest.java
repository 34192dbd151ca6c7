/** Promises 13 to 16: rings of staves, their gaps and leaks. */
public final class RingsTest {
  private static final Due due = new Due("RingsTest");

  public static void main(String[] args) {
    leak();
    worst();
    least();
    rings();
    smallSets();
    nineStaves();
    kinds();
    due.end();
  }

  /** STAVES of the told BEVELS; NEED is 2, as at first. */
  private static HoopYard yardOf(int... bevels) {
    HoopYard y = new HoopYard();
    for (int bevel : bevels) {
      y.stave(0, 10, 1, bevel);
    }
    return y;
  }

  // gaps of 0 5 -3 1: 3 between 0 and 1, 5 of 0 and 2, 1 of 0 and 3, 0 of 1 and 2, 4 of 1 and 3, 4 of 2 and 3
  private static void leak() {
    HoopYard y = yardOf(0, 5, -3, 1);
    due.is("leak(1234, 0)", y.leak(1234, 0), 8);
    due.is("leak(1432, 0)", y.leak(1432, 0), 8);
    due.is("leak(1243, 0)", y.leak(1243, 0), 16);
    due.is("leak(1324, 0)", y.leak(1324, 0), 10);
    due.is("leak(1234, 3)", y.leak(1234, 3), 1);
    due.is("leak(1324, 3)", y.leak(1324, 3), 3);
    due.is("leak(1234, 4)", y.leak(1234, 4), 0);
    due.is("leak(1234, 99)", y.leak(1234, 99), 0);
    due.is("leak(12, 0): two joints", y.leak(12, 0), 6);
    due.is("leak(34, 0)", y.leak(34, 0), 8);
    due.is("leak(3, 0): with itself", y.leak(3, 0), 8);
    int[] none = {0, 21, 11, 15, 5, 10, 102, 120, 1213, 2341, -1, -12, 12345, 123456789, 1234567891,
      Integer.MIN_VALUE, Integer.MAX_VALUE};
    for (int ring : none) {
      due.is("leak(" + ring + ", 0)", y.leak(ring, 0), HoopYard.BAD);
    }
    due.is("leak(12, -1)", y.leak(12, -1), HoopYard.BAD);
    due.is("leak(12, 100)", y.leak(12, 100), HoopYard.BAD);
    y.rule(3, -20);
    due.is("leak(1234, 0), NEED -20", y.leak(1234, 0), 86);
  }

  private static void worst() {
    HoopYard y = yardOf(0, 5, -3, 1);
    int[] joints = {2, 0, 3, 1}, gaps = {4, 3, 1, 0};
    int[] otherJoints = {3, 1, 2, 0}, otherGaps = {5, 4, 4, 3};
    for (int i = 0; i < 4; i++) {
      due.is("joint of 1234", y.worst(1234, i, 0), joints[i]);
      due.is("gap of 1234", y.worst(1234, i, 1), gaps[i]);
      due.is("joint of 1243", y.worst(1243, i, 0), otherJoints[i]);
      due.is("gap of 1243", y.worst(1243, i, 1), otherGaps[i]);
    }
    due.is("i 4", y.worst(1234, 4, 0), HoopYard.NONE);
    due.is("i -1", y.worst(1234, -1, 0), HoopYard.NONE);
    due.is("what 2", y.worst(1234, 0, 2), HoopYard.BAD);
    due.is("what -1, i 9", y.worst(1234, 9, -1), HoopYard.BAD);
    due.is("no ring, i 9", y.worst(2134, 9, 0), HoopYard.BAD);
    due.is("ring of one", y.worst(2, 0, 1), 8);
    due.is("ring of one, i 1", y.worst(2, 1, 1), HoopYard.NONE);
    due.is("ring of two, the second joint", y.worst(12, 1, 0), 1);
  }

  private static void least() {
    HoopYard y = yardOf(0, 5, -3, 1);
    due.is("its leak", y.least(15, 0, 0), 8);
    due.is("its digits", y.least(15, 0, 1), 1234);
    due.is("under 4", y.least(15, 4, 0), 0);
    HoopYard other = yardOf(0, 5, 1, -3);
    due.is("not the least digits of all: leak", other.least(15, 0, 0), 8);
    due.is("not the least digits of all", other.least(15, 0, 1), 1243);
    due.is("under 4", other.least(15, 4, 1), 1243);
    due.is("under 5 all are tight", other.least(15, 5, 1), 1234);
    due.is("a part of the set", other.least(14, 0, 1), 234);
    due.is("its leak: 4 0 4", other.least(14, 0, 0), 8);
    int[] badSets = {0, -1, 16, 31, 512, Integer.MIN_VALUE, Integer.MAX_VALUE};
    for (int set : badSets) {
      due.is("least of set " + set, y.least(set, 0, 0), HoopYard.BAD);
      due.is("rings of set " + set, y.rings(set, 0, 0), HoopYard.BAD);
    }
    due.is("p -1", y.least(1, -1, 0), HoopYard.BAD);
    due.is("p 100", y.least(1, 100, 0), HoopYard.BAD);
    due.is("p 99", y.least(1, 99, 0), 0);
    due.is("what -1", y.least(1, 0, -1), HoopYard.BAD);
    due.is("what 2", y.least(1, 0, 2), HoopYard.BAD);
  }

  private static void rings() {
    HoopYard y = yardOf(0, 5, -3, 1);
    due.is("7 or less", y.rings(15, 0, 7), 0);
    due.is("8", y.rings(15, 0, 8), 2);
    due.is("9", y.rings(15, 0, 9), 2);
    due.is("10", y.rings(15, 0, 10), 4);
    due.is("15", y.rings(15, 0, 15), 4);
    due.is("16", y.rings(15, 0, 16), 6);
    due.is("9999", y.rings(15, 0, 9999), 6);
    due.is("under 4, 0", y.rings(15, 4, 0), 2);
    due.is("under 99, 0", y.rings(15, 99, 0), 6);
    due.is("p -1", y.rings(15, -1, 0), HoopYard.BAD);
    due.is("p 100", y.rings(15, 100, 0), HoopYard.BAD);
    due.is("most -1", y.rings(15, 0, -1), HoopYard.BAD);
    due.is("most 10000", y.rings(15, 0, 10000), HoopYard.BAD);
  }

  private static void smallSets() {
    HoopYard y = yardOf(0, 5, -3, 1);
    due.is("one: leak", y.least(4, 0, 0), 8);
    due.is("one: digits", y.least(4, 0, 1), 3);
    due.is("one: rings", y.rings(4, 0, 8), 1);
    due.is("one: rings below", y.rings(4, 0, 7), 0);
    due.is("two: leak", y.least(10, 0, 0), 8);
    due.is("two: digits", y.least(10, 0, 1), 24);
    due.is("two: rings", y.rings(10, 0, 8), 1);
    due.is("two: rings below", y.rings(10, 0, 7), 0);
    due.is("three: rings", y.rings(7, 0, 8), 2);
    due.is("three: digits", y.least(7, 0, 1), 123);
  }

  private static void nineStaves() {
    HoopYard y = yardOf(-9, 9, -9, 9, -9, 9, -9, 9, 0);
    due.is("all nine", y.least(511, 0, 0), HoopYard.BAD);
    due.is("all nine: rings", y.rings(511, 0, 9999), HoopYard.BAD);
    due.is("all nine: wet", y.wet(511), HoopYard.BAD);
    due.is("nine digits", y.leak(123456789, 0), HoopYard.BAD);
    due.is("low and high by turns: 8 gaps of 2", y.least(255, 0, 0), 16);
    due.is("its digits", y.least(255, 0, 1), 12345678);
    due.is("all by turns: 4! times 3!", y.rings(255, 0, 16), 144);
    due.is("all rings of eight", y.rings(255, 0, 9999), 5040);
    due.is("the last eight: digits", y.least(510, 99, 1), 23456789);
    due.is("their rings", y.rings(510, 99, 0), 5040);
    due.is("the widest of eight", y.leak(13572468, 0), 112);
    y.rule(3, 20);
    due.is("the gaps under NEED 20", y.leak(13572468, 0), 160);
  }

  private static void kinds() {
    HoopYard y = new HoopYard();
    for (int kind = 0; kind < 5; kind++) {
      y.stave(kind, 10, 1, 3);
    }
    // EDGES 3 3 4 4 1; NEED 2
    due.is("STAVE by itself", y.leak(1, 0), 4);
    due.is("SAWN by itself", y.leak(2, 0), 4);
    due.is("CLEFT by itself", y.leak(3, 0), 6);
    due.is("BUNG by itself", y.leak(4, 0), 6);
    due.is("THIN by itself", y.leak(5, 0), 0);
    due.is("THIN and BUNG", y.leak(45, 0), 6);
  }
}
