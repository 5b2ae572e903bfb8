import java.lang.management.ManagementFactory;

/** What runs of dear calls allocate: all calls of a run live in one room, so only what is kept may be made. */
public final class RoomTest {
  private static final Expect E = new Expect("RoomTest");

  public static void main(String[] args) {
    run(new WrongsDesk());
    long before = allocated();
    WrongsDesk desk = new WrongsDesk();
    long made = allocated();
    run(desk);
    long after = allocated();
    E.due("a new object takes less than 40,000 bytes", made - before < 40000 ? 0 : made - before, 0);
    E.due("a run takes less than 100,000 bytes", after - made < 100000 ? 0 : after - made, 0);
    E.close();
  }

  private static long allocated() {
    return ((com.sun.management.ThreadMXBean) ManagementFactory.getThreadMXBean()).getCurrentThreadAllocatedBytes();
  }

  /** Rows and texts of the test itself are made ahead, so that just the desk's own things are counted. */
  private static void run(WrongsDesk desk) {
    String law = "owe 1 2 if t1|!(a2&w3>4);owe 2 3 unless l<9;owe 3 9999";
    desk.person(0);
    for (int n = 0; n < 20; n++) {
      desk.feast(7 * n);
    }
    for (int n = 0; n < 12; n++) {
      for (int i = 0; i < law.length(); i++) {
        desk.feed(law.charAt(i), 1);
      }
      desk.law(n % 3 - 1, 0);
      desk.feed(120, 1);
      desk.law(0, 0);
      desk.cause(n % 2, n % 4, 0);
    }
    desk.pass(50);
    for (int n = 0; n < 40; n++) {
      desk.matter(0, n % 2, n % 3, n, 100);
      desk.ask(n);
      desk.find(n, n);
      desk.plan(n, 1 + n % 9, 55);
      desk.grade(n % 6, n, 3);
      desk.grade((n + 1) % 6, n, 5);
    }
    for (int n = 0; n < 150; n++) {
      desk.file(n % 40, 1 + n % 9, n % 50, 3);
    }
    for (int n = 0; n < 512; n++) {
      desk.fewest();
      desk.unlike(0);
      desk.week(10 + n % 7);
      desk.report(n % 8);
      desk.good(n % 40, 9999);
      desk.habit(n % 6, 0);
      desk.tape(n % 6, n % 4, 80);
      desk.act(n % 40, 2, n);
      desk.law(0, 0);
      desk.reaches(n % 12, 1);
    }
  }
}
