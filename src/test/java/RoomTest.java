import com.sun.management.ThreadMXBean;
import java.lang.management.ManagementFactory;

/** All calls of a run live in one room: an object makes its rows when it is made, and no call makes any. */
public final class RoomTest {
  private static final ThreadMXBean THREADS = (ThreadMXBean) ManagementFactory.getThreadMXBean();

  public static void main(String[] args) {
    Check c = new Check();
    new AlarmGroups();
    useAll(new AlarmGroups());
    long before = made();
    AlarmGroups x = new AlarmGroups();
    long behind = made();
    c.holds("a new object has " + (behind - before) + " bytes", behind - before < 40000);
    before = made();
    useAll(x);
    behind = made();
    c.holds("its calls make " + (behind - before) + " bytes", behind - before < 2000);
    c.end();
  }

  private static long made() {
    return THREADS.getThreadAllocatedBytes(Thread.currentThread().getId());
  }

  private static void feed(AlarmGroups x, long a, long b) {
    x.feed(8, a);
    x.feed(8, b);
  }

  private static void useAll(AlarmGroups x) {
    for (int b = 0; b < 12; b++) {
      for (int i = 0; i < 12; i++) x.line(i % 6, i);
      x.build();
      x.partner(0);
      for (int k = 0; k < 4; k++) x.alarm(b % 12, k, 1 << k | 1 << b, k, 9);
      x.rule(1 << b, 3);
      x.prove(b, b % 2 == 0);
      x.known(3);
      x.closes(3, 0);
      x.groups();
      x.group(0, 0);
      // "silence ", "line  0;"
      feed(x, 0x73696C656E636520L, 0x6C696E652020303BL);
      x.silence();
      x.silent(0, 5);
      x.held(0);
      x.reason(0, -1);
      x.feed(3, 0x612F62);
      x.path(b % 6);
      x.feed(4, 0x2A2A2F62);
      x.pattern(1);
      x.owner(0);
      for (int what = 0; what < 10; what++) {
        x.of(0, what);
        x.count(what);
      }
      x.why(0, 0);
      x.rank(0);
      x.budget(50, 50);
      x.chosen(0);
      x.compare(0, b, 2, 0);
      x.trend(0, 3);
      x.out();
      x.outByte(0);
      x.back(0, 8);
      x.read();
      x.lift(b);
    }
  }
}
