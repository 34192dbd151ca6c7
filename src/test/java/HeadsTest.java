/** Promises 22 to 24: heads sawn of boards. */
public final class HeadsTest {
  private static final Due due = new Due("HeadsTest");

  public static void main(String[] args) {
    bounds();
    ties();
    cuts();
    lengths();
    seven();
    due.end();
  }

  private static HoopYard yardOf(int... widths) {
    HoopYard y = new HoopYard();
    for (int width : widths) {
      y.board(width);
    }
    return y;
  }

  private static void head(HoopYard y, int r, int used, int many, int digits) {
    due.is("head(" + r + ", 0)", y.head(r, 0), used);
    due.is("head(" + r + ", 1)", y.head(r, 1), many);
    due.is("head(" + r + ", 2)", y.head(r, 2), digits);
  }

  private static void bounds() {
    HoopYard y = yardOf();
    head(y, 1, HoopYard.NOT, HoopYard.NOT, HoopYard.NOT);
    due.is("heads of no boards", y.heads(1), 0);
    due.is("used of no boards", y.used(1, 1), HoopYard.BAD);
    int[] badRadii = {0, -1, 201, Integer.MIN_VALUE, Integer.MAX_VALUE};
    for (int r : badRadii) {
      due.is("head(" + r + ", 0)", y.head(r, 0), HoopYard.BAD);
      due.is("heads(" + r + ")", y.heads(r), HoopYard.BAD);
      due.is("used(" + r + ", 1)", y.used(r, 1), HoopYard.BAD);
    }
    due.is("head(1, -1)", y.head(1, -1), HoopYard.BAD);
    due.is("head(1, 3)", y.head(1, 3), HoopYard.BAD);
    HoopYard wide = yardOf(99, 99, 99, 99, 99);
    head(wide, 200, 99 * (346 + 400 + 400 + 350 + 80), 5, 12345);
    due.is("heads(200)", wide.heads(200), 120);
  }

  private static void ties() {
    HoopYard y = yardOf(1, 1, 2);
    // 12, 21 and 3 use 4 each: that of the first BOARD is ahead, though it has more of them
    head(y, 1, 4, 2, 12);
    due.is("12 13 21 23 3", y.heads(1), 5);
    due.is("used(1, 13)", y.used(1, 13), 6);
    due.is("used(1, 3)", y.used(1, 3), 4);
    int[] none = {0, 1, 2, 31, 32, 123, 11, 14, 4, 10, -1, -12, 1234, Integer.MIN_VALUE, Integer.MAX_VALUE};
    for (int row : none) {
      due.is("used(1, " + row + ")", y.used(1, row), HoopYard.BAD);
    }
  }

  private static void cuts() {
    HoopYard y = yardOf(2, 9);
    // 4 off the middle: the root of 9; 3 off: of 16; neither is 1 more
    due.is("used(5, 12)", y.used(5, 12), 16 + 90);
    due.is("used(5, 21)", y.used(5, 21), 90 + 12);
    head(y, 5, 102, 2, 21);
    due.is("heads(5)", y.heads(5), 2);
    // 2 off the middle of 4: the root of 12 is 3, its square is less
    due.is("used(4, 12)", y.used(4, 12), 16 + 72);
    due.is("used(4, 2)", y.used(4, 2), 72);
    due.is("used(4, 21): one too many", y.used(4, 21), HoopYard.BAD);
    due.is("used(5, 2): too few", y.used(5, 2), HoopYard.BAD);
    head(y, 4, 72, 1, 2);
    due.is("heads(4)", y.heads(4), 2);
    head(y, 6, HoopYard.NOT, HoopYard.NOT, HoopYard.NOT);
    due.is("heads(6)", y.heads(6), 0);
  }

  private static void lengths() {
    HoopYard y = yardOf(25, 30);
    due.is("used(20, 12)", y.used(20, 12), 2200);
    due.is("used(20, 21)", y.used(20, 21), 2100);
    head(y, 20, 2100, 2, 21);
    // twice 15 is just reached by the second board alone
    due.is("used(15, 2)", y.used(15, 2), 900);
    due.is("heads(15): 2 and 12", y.heads(15), 2);
    head(y, 15, 900, 1, 2);
  }

  private static void seven() {
    HoopYard y = yardOf(1, 1, 1, 1, 1, 1, 1);
    due.is("heads(3): six of seven", y.heads(3), 5040);
    head(y, 3, 6 * 6, 6, 123456);
    due.is("heads(4)", y.heads(4), 0);
    y.takes(2);
    y.board(2);
    due.is("heads(4): all", y.heads(4), 5040);
    due.is("digits of all", y.head(4, 1), 7);
  }
}
