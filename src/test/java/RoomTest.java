import java.lang.management.ManagementFactory;

/** All calls of a run live in one room: an object is made once, its calls make nothing more. */
public final class RoomTest {
  private static final long BYTES_OF_AN_OBJECT = 1_000_000;
  private static final long BYTES_OF_A_RUN = 10_000;

  public static void main(String[] args) {
    Due.of("What it is", "An object is used for at most 512 calls after it has been made");
    com.sun.management.ThreadMXBean threads =
        (com.sun.management.ThreadMXBean) ManagementFactory.getThreadMXBean();
    long id = Thread.currentThread().getId();
    // what the machine itself makes at a first time is none of the run's
    run(new FaultLists(), 100);
    long before = threads.getThreadAllocatedBytes(id);
    FaultLists x = new FaultLists();
    long made = threads.getThreadAllocatedBytes(id);
    run(x, 500);
    long ran = threads.getThreadAllocatedBytes(id);
    System.out.println("an object " + (made - before) + " bytes, a run " + (ran - made) + " bytes");
    Due.is("an object's bytes", made - before < BYTES_OF_AN_OBJECT, true);
    Due.is("a run's bytes", ran - made < BYTES_OF_A_RUN, true);
    Due.leave();
  }

  private static void tell(FaultLists x, String signs) {
    x.end(0);
    for (int p = 0; p < signs.length(); p += 4) {
      int v = 0;
      for (int i = 0; i < 4; i++) v = v << 8 | (p + i < signs.length() ? signs.charAt(p + i) : 0);
      x.sign(v);
    }
    x.end(signs.length());
  }

  private static void run(FaultLists x, int calls) {
    tell(x, "4;#k1;#e;#f0;^abe;&hfg;|icd;^jgh;&ha:lkji");
    x.net();
    tell(x, "1010010101u1111100001010110001111010010101u1111100001010110001111010010101u11111");
    x.applies();
    for (int i = 0; i < calls; i++) {
      x.hidden();
      x.needless();
      x.shorter();
      x.parts();
      x.tests(i % 60);
      x.drawn(i, 24);
      x.classes();
      x.keep(i % 2);
      x.again(i % 2);
      tell(x, "");
      x.blames();
      tell(x, "0101");
      x.would();
      tell(x, "1;!b");
      x.net();
    }
  }
}
