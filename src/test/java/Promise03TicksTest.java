/** Promise 3: TIME grows and wraps. */
public final class Promise03TicksTest {
  private static void checkTime(TrapHart hart, int higher, int lower) {
    Check.is("lower half of TIME", hart.load(204), lower);
    Check.is("higher half of TIME", hart.load(208), higher);
  }

  private static boolean timerPends(TrapHart hart) {
    return (hart.read(836) & 1 << 7) != 0;
  }

  private static void testGrows() {
    TrapHart hart = new TrapHart(0);
    hart.ticks(0);
    checkTime(hart, 0, 0);
    hart.ticks(5);
    checkTime(hart, 0, 5);
    hart.ticks(Integer.MAX_VALUE);
    checkTime(hart, 0, 0x80000004);
    hart.ticks(Integer.MAX_VALUE);
    checkTime(hart, 1, 3);
    Check.is("the PC stays", hart.pc(), 0);
  }

  private static void testWraps() {
    TrapHart hart = new TrapHart(0);
    hart.store(204, -3);
    hart.store(208, -1);
    hart.ticks(2);
    checkTime(hart, -1, -1);
    Check.is("TIME is COMPARE, the greatest", timerPends(hart) ? 1 : 0, 1);
    hart.ticks(1);
    checkTime(hart, 0, 0);
    Check.is("wrapped below COMPARE", timerPends(hart) ? 1 : 0, 0);
  }

  private static void testReachesCompare() {
    TrapHart hart = new TrapHart(0);
    hart.store(196, 10);
    hart.store(200, 0x80000000);
    hart.store(204, 8);
    hart.store(208, 0x80000000);
    hart.ticks(1);
    Check.is("one less", timerPends(hart) ? 1 : 0, 0);
    hart.ticks(1);
    Check.is("just so much", timerPends(hart) ? 1 : 0, 1);
    hart.store(208, 0x7FFFFFFF);
    Check.is("less, read without sign", timerPends(hart) ? 1 : 0, 0);
    hart.store(208, 0x80000001);
    Check.is("more", timerPends(hart) ? 1 : 0, 1);
  }

  private static void testBelowZero() {
    for (int n : new int[] {-1, -1000, Integer.MIN_VALUE}) {
      Check.refuses(
          "ticks(" + n + ")",
          IllegalArgumentException.class,
          () -> Harts.busy(3),
          hart -> hart.ticks(n));
    }
  }

  public static void main(String[] args) {
    testGrows();
    testWraps();
    testReachesCompare();
    testBelowZero();
    Check.end("Promise03TicksTest");
  }
}
