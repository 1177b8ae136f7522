import com.sun.management.ThreadMXBean;
import java.lang.management.ManagementFactory;

/** Calls make nothing: rows are made by the constructor and used again. */
public final class RoomTest {
  private static final long BYTES_OF_AN_OBJECT = 40_000;
  private static final long BYTES_OF_512_CALLS = 4_000;
  private static final int ONE_ROUND = 37;

  public static void main(String[] args) {
    ThreadMXBean threads = (ThreadMXBean) ManagementFactory.getThreadMXBean();
    long thread = Thread.currentThread().getId();
    round(new StretchSpool());
    threads.getThreadAllocatedBytes(thread);

    long before = threads.getThreadAllocatedBytes(thread);
    StretchSpool x = new StretchSpool();
    long made = threads.getThreadAllocatedBytes(thread);
    int calls = 0;
    for (int round = 0; round < 512 / ONE_ROUND; round++) {
      calls += round(x);
    }
    long called = threads.getThreadAllocatedBytes(thread);
    Due.holds("an object takes " + (made - before) + " bytes", made - before < BYTES_OF_AN_OBJECT);
    Due.holds(calls + " calls take " + (called - made) + " bytes", called - made < BYTES_OF_512_CALLS);
    Due.holds("an object is used for at most 512 calls", calls <= 512);
    Due.end();
  }

  /** Each method once or more; tells how many calls that were. */
  private static int round(StretchSpool x) {
    char[] text = {'w', 'r', 'i', 't', 'e', ' ', '0', ' ', 'a', 'b', 'c', 'd', 'e', 'f', 'g', 'h'};
    x.clearText();
    for (int place = 0; place < text.length; place++) {
      x.type(text[place]);
    }
    x.perform();
    x.setRule(1);
    x.setLimit(200);
    x.rewind(0, 3, 30);
    x.keep();
    x.cut(0, 4);
    x.close(0);
    x.splice(0, 1);
    x.punch(0, 2);
    x.undo();
    x.restore();
    x.spool(0, 5);
    x.gap(0, 1, 2);
    x.read(0, 1, 3);
    x.errors(0, 2, 2);
    x.bestWay(0);
    x.errorsAfter(0, 1, 9, 30);
    x.safeRewinds(0, 1, 2);
    x.event(3, 1);
    x.count(1);
    return ONE_ROUND;
  }
}
