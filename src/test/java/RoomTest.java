import com.sun.management.ThreadMXBean;
import java.lang.management.ManagementFactory;

/** 512 of each dear call take little of the room that all calls of a run have together (LANGUAGE.md, rule 12). */
public final class RoomTest {
  private static final int CALLS = 512;
  /** The room has 7,300,000 fields and elements; these bytes hold a hundredth of it at the most. */
  private static final long MOST_BYTES = 73_000 * 8;

  private interface Call {
    void on(HoopYard yard);
  }

  private static final Due due = new Due("RoomTest");
  private static final ThreadMXBean THREADS = (ThreadMXBean) ManagementFactory.getThreadMXBean();

  public static void main(String[] args) {
    isSmall("making and taking", y -> y.stave(4, 99, 9, y.takes(0) & 1));
    isSmall("fits", y -> y.fits(1));
    isSmall("nearest", y -> y.nearest(999));
    isSmall("least", y -> y.least(255, 0, 1));
    isSmall("worst", y -> y.worst(12345678, 7, 0));
    isSmall("rings", y -> y.rings(255, 0, 9999));
    isSmall("press", y -> y.press(4));
    isSmall("driest", y -> y.driest(255, 600));
    isSmall("head", y -> y.head(100, 2));
    isSmall("heads", y -> y.heads(100));
    isSmall("read", y -> y.read());
    isSmall("tray", y -> y.tray(0, 1, 30));
    isSmall("fill", y -> y.fill(1, 255, 0));
    isSmall("move", y -> y.move(1, 0, 1, 10, 20));
    isSmall("image", HoopYard::image);
    isSmall("undo", HoopYard::undo);
    due.end();
  }

  private static HoopYard filled() {
    HoopYard y = new HoopYard();
    for (int i = 0; i < 9; i++) {
      y.stave(i % 5, 10 * i + 9, 1 + i, i);
    }
    for (int i = 0; i < 5; i++) {
      y.hoop(i % 4, 90 + i, i % 2);
    }
    for (int i = 0; i < 7; i++) {
      y.board(30 + i);
    }
    y.tray(1, 1, 30);
    y.image();
    return y;
  }

  private static void isSmall(String name, Call call) {
    call.on(filled());
    long before = THREADS.getThreadAllocatedBytes(Thread.currentThread().getId());
    HoopYard yard = filled();
    for (int k = 0; k < CALLS; k++) {
      call.on(yard);
    }
    long taken = THREADS.getThreadAllocatedBytes(Thread.currentThread().getId()) - before;
    due.holds(name + " takes " + taken + " bytes", taken < MOST_BYTES);
  }
}
