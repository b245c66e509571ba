import java.lang.management.ManagementFactory;

/** What a run makes: some in the constructor, the rows of a table as they are needed, and then nothing. */
public final class RoomTest {
  private static final Checks CHECKS = new Checks("RoomTest");
  private static final com.sun.management.ThreadMXBean MADE =
      (com.sun.management.ThreadMXBean) ManagementFactory.getThreadMXBean();

  /** Some 20,000 fields and elements of four bytes, with their objects' heads. */
  private static final long MOST_FOR_ONE = 100_000;
  /** Sixteen rows of 2,400 elements. */
  private static final long MOST_FOR_ROWS = 170_000;
  private static final long MOST_FOR_CALLS = 1_000;

  private static final String DEAR = "row tttttttt;row ttpttctt;row tttttstt;row ttttttth;faces 3;lives 2;"
      + kick("a") + kick("b") + kick("c") + kick("d")
      + law("drift") + law("runs") + law("cars");

  private static String kick(String name) {
    return "kick " + name + " 1 by 0 0 1 by 1 - 1 turn 1 1 by 2 1 turn 2 1 by 1 0 1 by 1 1 1 by 3 0;";
  }

  private static String law(String name) {
    return name + "= if second*along-face < 3*(across+2) then (second+which*hard)/(3+sort) - 4 else"
        + " if second < 20*across then 0-1 else (second-along)/(2+across*face) - 9;";
  }

  public static void main(String[] args) {
    ask(CHECKS.on(DEAR));
    long before = made();
    StoneHome x = new StoneHome();
    long one = made() - before;
    CHECKS.due("a new object takes little room (" + one + ")", one <= MOST_FOR_ONE, true);
    CHECKS.due("read", Checks.read(x, DEAR), 0);
    before = made();
    ask(x);
    long rows = made() - before;
    CHECKS.due("the first calls take little (" + rows + ")", rows <= MOST_FOR_ROWS, true);
    CHECKS.due("read", Checks.read(x, DEAR), 0);
    before = made();
    ask(x);
    long calls = made() - before;
    CHECKS.due("later calls take none (" + calls + ")", calls <= MOST_FOR_CALLS, true);
    CHECKS.end();
  }

  private static long made() {
    return MADE.getThreadAllocatedBytes(Thread.currentThread().getId());
  }

  private static int ask(StoneHome x) {
    int sum = 0;
    for (int i = 0; i < 5; i++) {
      sum += x.tell(i % 3, 0);
      x.hold(i);
      x.waits();
      x.touch(i);
      x.undo();
      x.restore(i);
      x.feed(1, 2, 3, 4, 5);
      x.read();
    }
    for (int n = 0; n <= 10; n++) {
      sum += x.home(n, true) + x.best(n) + x.sure(n) + x.rule(0, n, true) + x.comes(1, n, 2, 1, true);
      sum += x.worth(n, true, true) + x.worth(n, false, true) + x.face(n) + x.side(n) + x.goBy(n);
      sum += x.plan(n, 1, 1) + x.trap(n) + x.first(n, true) + x.fits(n, -1) + x.often(n, 0) + x.least(9 * n);
      sum += x.kick(n % 4) + x.brings(0, n, 0) + x.cars(1, 1, n) + x.can() + x.count(n) + x.now(n);
    }
    return sum;
  }

  private RoomTest() {
  }
}
