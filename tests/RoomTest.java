import java.lang.management.ManagementFactory;

/** What an object's calls make stays below the room that a run has (7.3 million fields and elements). */
public final class RoomTest {
  /** A field or an element takes a byte at least, an object twelve: so many bytes hold no more of them. */
  private static final long MOST_BYTES = 7300000;
  private static final int CALLS = 430;

  private static final com.sun.management.ThreadMXBean THREADS =
      (com.sun.management.ThreadMXBean) ManagementFactory.getThreadMXBean();

  private static long answers = 0;

  public static void main(String[] args) {
    for (int call = 0; call < 12; call++) {
      TakesAPage x = Check.made("b8;r79;r29;r59;r49;r09;r39;");
      Check.row(x, 1, 0, 0, 1, 2, 3, 4, 5);
      Check.row(x, 2, 0, 0, 0, 1, 0, 2, 0, 3, 0);
      Check.due("keep", x.keep(3, 1, 7, 9), 0);
      Check.text(x, 4, "b8;r00;n010;x00;x00;x00;b9;");
      long before = bytes();
      for (int k = 0; k < CALLS; k++) {
        answers += ask(x, call);
      }
      long made = bytes() - before;
      Check.due("call " + call + " made " + made + " bytes", made > MOST_BYTES ? 1 : 0, 0);
    }
    Check.due("all were asked", answers != 0 ? 1 : 0, 1);
    Check.end("RoomTest");
  }

  private static long bytes() {
    return THREADS.getThreadAllocatedBytes(Thread.currentThread().getId());
  }

  private static int ask(TakesAPage x, int call) {
    switch (call) {
      case 0: return x.most(0, 1, 0);
      case 1: return x.spoils(0, 1, 1);
      case 2: return x.run(2, 0);
      case 3: return x.law(2, 7, 9);
      case 4: return x.howMany(1, 0, 40);
      case 5: return x.seeded(40, 5);
      case 6: return x.town(4);
      case 7: return x.toss(3);
      case 8: return x.row(5, 2, 100);
      case 9: return x.image();
      case 10: return x.keep(5, 1, 7, 9);
      default: return x.turns(0, 1, 0);
    }
  }
}
