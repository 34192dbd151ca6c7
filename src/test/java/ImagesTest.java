/** Promises 36 and 37: an image, and what undo lays back. */
public final class ImagesTest {
  private static final Due due = new Due("ImagesTest");

  public static void main(String[] args) {
    laysBack();
    staysByItself();
    pegs();
    due.end();
  }

  private static void laysBack() {
    HoopYard y = new HoopYard();
    due.is("no image yet", y.undo(), HoopYard.STATE);
    due.is("image of nothing", y.image(), 0);
    y.stave(3, 20, 2, 1);
    y.stave(4, 30, 3, 2);
    y.hoop(1, 90, 1);
    y.board(40);
    for (int what = 0; what < 4; what++) {
      y.rule(what, 15 + what);
    }
    due.is("image", y.image(), 2);
    y.takes(0);
    y.shave(0, 7);
    y.stave(0, 9, 9, 9);
    y.stave(0, 8, 8, 8);
    y.takes(1);
    y.hoop(0, 10, 0);
    y.hoop(0, 11, 0);
    y.takes(2);
    y.board(1);
    y.board(2);
    for (int what = 0; what < 4; what++) {
      y.rule(what, 10);
    }
    y.feed('g');
    due.is("undo", y.undo(), 2);
    int[] told = {15, 16, 17, 118, 2, 1, 1, 1, 0};
    for (int what = 0; what < 9; what++) {
      due.is("told(" + what + ")", y.told(what), told[what]);
    }
    due.is("KIND", y.ofStave(0, 0), 3);
    due.is("WIDTH", y.ofStave(0, 1), 20);
    due.is("THICK", y.ofStave(0, 2), 2);
    due.is("BEVEL", y.ofStave(0, 3), 101);
    due.is("KIND of the other", y.ofStave(1, 0), 4);
    due.is("WIDTH of the other", y.ofStave(1, 1), 30);
    due.is("hoop KIND", y.ofHoop(0, 0), 1);
    due.is("hoop SIZE", y.ofHoop(0, 1), 90);
    due.is("hoop SIDE", y.ofHoop(0, 2), 1);
    due.is("the board", y.used(20, 1), 40 * 40);
    y.feed('2');
    y.feed('0');
    due.is("a text", y.read(), 1);
    y.undo();
    due.is("TEXTS stay", y.told(8), 1);
    due.is("GIRTH does not", y.told(0), 15);
  }

  private static void staysByItself() {
    HoopYard y = new HoopYard();
    y.stave(0, 20, 2, 1);
    due.is("image", y.image(), 1);
    y.shave(0, 10);
    due.is("undo", y.undo(), 1);
    due.is("WIDTH", y.ofStave(0, 1), 20);
    y.shave(0, 5);
    due.is("undo once more", y.undo(), 1);
    due.is("WIDTH once more", y.ofStave(0, 1), 20);
    y.shave(0, 3);
    y.stave(1, 4, 1, 1);
    due.is("another image", y.image(), 2);
    y.takes(0);
    y.takes(0);
    due.is("undo to that one", y.undo(), 2);
    due.is("WIDTH", y.ofStave(0, 1), 3);
    due.is("WIDTH", y.ofStave(1, 1), 4);
  }

  private static void pegs() {
    HoopYard y = new HoopYard();
    y.stave(0, 20, 2, 1);
    y.hang(0, 0, 0);
    y.tray(1, 0, 2);
    y.put(1, 0, 7);
    y.image();
    y.shave(0, 15);
    due.is("an image takes nothing off the peg's thing", y.as(0, 0, 0), 15);
    y.hang(2, 0, 0);
    y.put(1, 0, 8);
    y.undo();
    due.is("what hangs stays as it is", y.as(0, 0, 0), 15);
    due.is("the yard's is as it was", y.ofStave(0, 1), 20);
    due.is("a peg stays", y.held(2), 1);
    due.is("a tray stays", y.get(1, 0), 8);
    y.shave(0, 4);
    due.is("what hangs is none of the yard", y.as(0, 0, 0), 15);
    y.hang(0, 0, 0);
    due.is("hung again", y.as(0, 0, 0), 4);
    y.shave(0, 2);
    due.is("it is the yard's now", y.as(0, 0, 0), 2);
    y.undo();
    due.is("and none of the yard again", y.as(0, 0, 0), 2);
    due.is("the yard's", y.ofStave(0, 1), 20);
  }
}
