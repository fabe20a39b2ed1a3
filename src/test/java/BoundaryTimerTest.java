/** Terms, the boundaries of the timer: its two numbers of 64 bits and its soft bit. */
public final class BoundaryTimerTest {
  private static TrapHart with(long time, long compare) {
    TrapHart hart = new TrapHart(0);
    hart.store(204, (int) time);
    hart.store(208, (int) (time >>> 32));
    hart.store(196, (int) compare);
    hart.store(200, (int) (compare >>> 32));
    return hart;
  }

  private static void checkReached(long time, long compare, boolean due) {
    String what = Long.toUnsignedString(time) + " to " + Long.toUnsignedString(compare);
    Check.is(what, with(time, compare).read(Harts.PENDING), due ? 1 << 7 : 0);
  }

  private static void checkTime(TrapHart hart, long time) {
    Check.is("lower half", hart.load(204), (int) time);
    Check.is("higher half", hart.load(208), (int) (time >>> 32));
  }

  private static void checkTicks(long from, int n, long to) {
    TrapHart hart = with(from, -1L);
    hart.ticks(n);
    checkTime(hart, to);
    Check.is("COMPARE stays", hart.load(196) & hart.load(200), -1);
  }

  private static void atFirst() {
    TrapHart hart = new TrapHart(0);
    checkTime(hart, 0);
    Check.is("lower half of COMPARE", hart.load(196), -1);
    Check.is("higher half of COMPARE", hart.load(200), -1);
    Check.is("not reached", hart.read(Harts.PENDING), 0);
  }

  private static void greatestIsReachedByTheGreatestAlone() {
    checkReached(-2L, -1L, false);
    checkReached(-1L, -1L, true);
    checkReached(0L, -1L, false);
  }

  private static void signIsNone() {
    checkReached(Long.MAX_VALUE, Long.MIN_VALUE, false);
    checkReached(Long.MIN_VALUE, Long.MAX_VALUE, true);
    checkReached(Long.MIN_VALUE, Long.MIN_VALUE, true);
    checkReached(-1L, 0L, true);
    checkReached(0L, Long.MIN_VALUE, false);
  }

  private static void signOfTheLowerHalfIsNone() {
    checkReached(0x7FFFFFFFL, 0x80000000L, false);
    checkReached(0x80000000L, 0x7FFFFFFFL, true);
    checkReached(0xFFFFFFFFL, 0x100000000L, false);
    checkReached(0x100000000L, 0xFFFFFFFFL, true);
    checkReached(0x1_80000000L, 0x1_7FFFFFFFL, true);
    checkReached(0x1_7FFFFFFFL, 0x1_80000000L, false);
  }

  private static void lessEqualMore() {
    for (long compare : new long[] {1L, 1000L, 0x100000000L, Long.MIN_VALUE, -2L}) {
      checkReached(compare - 1, compare, false);
      checkReached(compare, compare, true);
      checkReached(compare + 1, compare, true);
    }
  }

  private static void zeroIsAlwaysReached() {
    checkReached(0L, 0L, true);
    checkReached(1L, 0L, true);
    checkReached(-1L, 0L, true);
  }

  private static void higherHalfCountsFirst() {
    checkReached(0x1_00000000L, 0x0_FFFFFFFFL, true);
    checkReached(0x0_FFFFFFFFL, 0x1_00000000L, false);
    checkReached(0x2_00000005L, 0x2_00000006L, false);
    checkReached(0x2_00000006L, 0x2_00000006L, true);
  }

  private static void greatestWraps() {
    checkTicks(-1L, 1, 0L);
    checkTicks(-1L, Integer.MAX_VALUE, Integer.MAX_VALUE - 1L);
    checkTicks(-5L, 4, -1L);
    checkTicks(-5L, 5, 0L);
  }

  private static void wrapPutsThePendingBitOut() {
    TrapHart hart = with(-1L, 1L);
    Check.is("reached", hart.read(Harts.PENDING), 1 << 7);
    hart.ticks(1);
    Check.is("wrapped to 0", hart.read(Harts.PENDING), 0);
    hart.ticks(1);
    Check.is("reached anew", hart.read(Harts.PENDING), 1 << 7);
  }

  private static void lowerHalfCarries() {
    checkTicks(0xFFFFFFFFL, 1, 0x100000000L);
    checkTicks(0xFFFFFFFFL, Integer.MAX_VALUE, 0x1_7FFFFFFEL);
    checkTicks(0x7FFFFFFFL, 1, 0x80000000L);
    checkTicks(0x7FFFFFFF_FFFFFFFFL, 1, Long.MIN_VALUE);
  }

  private static void noTicks() {
    checkTicks(0L, 0, 0L);
    checkTicks(-1L, 0, -1L);
  }

  private static void oneTick() {
    checkTicks(0L, 1, 1L);
  }

  private static void mostTicks() {
    checkTicks(0L, Integer.MAX_VALUE, 0x7FFFFFFFL);
    checkTicks(0x7FFFFFFFL, Integer.MAX_VALUE, 0xFFFFFFFEL);
  }

  private static void checkTicksRefused(int n) {
    for (int privilege : new int[] {0, 1, 3}) {
      Check.refuses(
          "ticks(" + n + ")",
          IllegalArgumentException.class,
          () -> Harts.busy(privilege),
          hart -> hart.ticks(n));
    }
  }

  private static void softAtFirst() {
    TrapHart hart = new TrapHart(0);
    Check.is("the word", hart.load(192), 0);
    Check.is("the interrupt", hart.read(Harts.PENDING), 0);
  }

  private static void softShows() {
    TrapHart hart = new TrapHart(0);
    hart.store(192, 1);
    Check.is("1", hart.read(Harts.PENDING), 1 << 3);
    hart.store(192, 0);
    Check.is("0", hart.read(Harts.PENDING), 0);
  }

  private static void softIsApart() {
    TrapHart hart = with(5L, 6L);
    hart.store(192, -1);
    Check.is("soft", hart.load(192), 1);
    Check.is("COMPARE", hart.load(196), 6);
    checkTime(hart, 5L);
    Check.is("soft alone", hart.read(Harts.PENDING), 1 << 3);
    hart.ticks(1);
    Check.is("and the timer", hart.read(Harts.PENDING), 1 << 3 | 1 << 7);
    hart.store(192, 0);
    Check.is("the timer alone", hart.read(Harts.PENDING), 1 << 7);
  }

  private static void testCompare() {
    String first = "at first 0 and the greatest one";
    Check.test(first, "new", BoundaryTimerTest::atFirst);
    Check.test(first, "the greatest", BoundaryTimerTest::greatestIsReachedByTheGreatestAlone);
    String sign = "numbers of 64 bits without sign";
    Check.test(sign, "bit 63", BoundaryTimerTest::signIsNone);
    Check.test(sign, "bit 31", BoundaryTimerTest::signOfTheLowerHalfIsNone);
    String less = "whether TIME is not less than COMPARE";
    Check.test(less, "less, equal, more", BoundaryTimerTest::lessEqualMore);
    Check.test(less, "COMPARE is 0", BoundaryTimerTest::zeroIsAlwaysReached);
    Check.test(less, "by halves", BoundaryTimerTest::higherHalfCountsFirst);
  }

  private static void testTicks() {
    String wraps = "TIME grows by n (it wraps)";
    Check.test(wraps, "at the greatest", BoundaryTimerTest::greatestWraps);
    Check.test(wraps, "past COMPARE", BoundaryTimerTest::wrapPutsThePendingBitOut);
    Check.test(wraps, "from half to half", BoundaryTimerTest::lowerHalfCarries);
    Check.test(wraps, "n is 0", BoundaryTimerTest::noTicks);
    Check.test(wraps, "n is 1", BoundaryTimerTest::oneTick);
    Check.test(wraps, "n is the greatest int", BoundaryTimerTest::mostTicks);
    String below = "IllegalArgumentException if n is below 0";
    Check.test(below, "-1", () -> checkTicksRefused(-1));
    Check.test(below, "the least int", () -> checkTicksRefused(Integer.MIN_VALUE));
  }

  private static void testSoft() {
    Check.test("a SOFT bit, at first 0", "new", BoundaryTimerTest::softAtFirst);
    Check.test("3 the soft bit of the timer", "1 and 0", BoundaryTimerTest::softShows);
    Check.test("192: the soft bit", "not the halves beside it", BoundaryTimerTest::softIsApart);
  }

  public static void main(String[] args) {
    testCompare();
    testTicks();
    testSoft();
    Check.end("BoundaryTimerTest");
  }
}
