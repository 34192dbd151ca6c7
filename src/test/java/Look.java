import java.util.ArrayList;
import java.util.List;

/** All that can be seen of a yard from outside, some 400 calls of it. What has been looked at is used up. */
final class Look {
  private final HoopYard yard;
  private final List<Long> seen = new ArrayList<>();

  private Look(HoopYard yard) {
    this.yard = yard;
  }

  static List<Long> at(HoopYard yard) {
    Look look = new Look(yard);
    look.stock();
    look.pegs();
    look.boards();
    look.see(yard.read());
    look.stock();
    look.see(yard.undo());
    look.stock();
    look.boards();
    return look.seen;
  }

  private void see(long answer) {
    seen.add(answer);
  }

  private void stock() {
    for (int what = 0; what < 9; what++) {
      see(yard.told(what));
    }
    for (int i = 0; i < yard.told(4); i++) {
      for (int what = 0; what < 4; what++) {
        see(yard.ofStave(i, what));
      }
    }
    for (int i = 0; i < yard.told(5); i++) {
      for (int what = 0; what < 3; what++) {
        see(yard.ofHoop(i, what));
      }
    }
  }

  private void pegs() {
    for (int peg = 0; peg < 6; peg++) {
      see(yard.held(peg));
      for (int what = 0; what < 3; what++) {
        see(yard.as(peg, what, 0));
      }
      for (int i = 0; i < 30 && yard.held(peg) >= 4; i++) {
        see(yard.get(peg, i));
      }
    }
  }

  private void boards() {
    for (int i = 0; i < yard.told(6); i++) {
      see(yard.hang(0, 2, i));
      see(yard.as(0, 2, 0));
    }
  }
}
