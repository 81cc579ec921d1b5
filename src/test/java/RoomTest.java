import java.lang.management.ManagementFactory;

/** An object makes its rows once: the calls behind it make nothing, however much they search. */
public final class RoomTest {
  private static final int CALLS = 512;

  private static long bytesMade() {
    com.sun.management.ThreadMXBean threads =
        (com.sun.management.ThreadMXBean) ManagementFactory.getThreadMXBean();
    return threads.getThreadAllocatedBytes(Thread.currentThread().getId());
  }

  private static SlabPatterns crowded() {
    SlabPatterns x = new SlabPatterns();
    x.plate(200, 200, 0);
    for (int piece = 0; piece < 5; piece++) {
      x.want(1 + piece, 200, 1 + piece, piece, 20);
      x.turn(piece, true);
    }
    x.rules(2, 0, 0, 0, 0);
    return x;
  }

  public static void main(String[] args) {
    // Once ahead of counting, so that loading the classes is not counted.
    crowded().run(1);
    bytesMade();
    long before = bytesMade();
    SlabPatterns x = crowded();
    long made = bytesMade() - before;
    before = bytesMade();
    long sum = 0;
    for (int call = 0; call < CALLS / 4; call++) {
      sum += x.run(100000);
      sum += x.check() + x.rest(0) + x.copies(4);
    }
    long later = bytesMade() - before;
    System.out.println("made: " + made + " bytes at first, " + later + " bytes later; " + sum);
    // Some allowance for what the machine itself makes on the way.
    if (made > 20000 || later > 8000) {
      System.out.println("that is too much");
      System.exit(1);
    }
  }
}
