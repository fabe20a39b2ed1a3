/** Promise 5: store, what words keep, and completing. */
public final class Promise05StoreTest {
  private static void checkKept(int address, int kept) {
    for (int value : new int[] {-1, 0, 0x55555555, 0xAAAAAAAA, 8, 0x10000}) {
      TrapHart hart = new TrapHart(0);
      hart.store(address, -1);
      hart.store(address, value);
      Check.is("store(" + address + ", " + value + ")", hart.load(address), value & kept);
      Check.is("the PC stays", hart.pc(), 0);
    }
  }

  private static void testWhatIsKept() {
    for (int s = 1; s <= 15; s++) {
      checkKept(4 * s, 7);
    }
    for (int c = 0; c <= 1; c++) {
      checkKept(128 + 16 * c, 0xFFFE);
      checkKept(132 + 16 * c, 7);
    }
    checkKept(192, 1);
    for (int address = 196; address <= 208; address += 4) {
      checkKept(address, -1);
    }
  }

  private static void testHalvesAreApart() {
    TrapHart hart = new TrapHart(0);
    hart.store(196, 0);
    Check.is("higher half of COMPARE stays", hart.load(200), -1);
    hart.store(196, -5);
    hart.store(200, 3);
    Check.is("lower half of COMPARE stays", hart.load(196), -5);
    hart.store(208, 9);
    hart.store(204, -1);
    Check.is("higher half of TIME stays", hart.load(208), 9);
    hart.store(208, 0);
    Check.is("lower half of TIME stays", hart.load(204), -1);
  }

  private static TrapHart withServed() {
    TrapHart hart = new TrapHart(0);
    hart.store(4 * 4, 1);
    hart.store(4 * 6, 1);
    hart.store(128, 1 << 4 | 1 << 6);
    hart.store(144, 1 << 6);
    hart.lines(1 << 4 | 1 << 6);
    hart.load(136);
    hart.load(136);
    hart.lines(0);
    return hart;
  }

  private static void testComplete() {
    TrapHart hart = withServed();
    for (int number : new int[] {0, -1, 16, 31, 32, 4 + 32, 4 + 16, 4 + 256, 0x80000004, 5}) {
      hart.store(136, number);
      Check.is("completing " + number + " leaves 4", hart.source(4), 1);
      Check.is("completing " + number + " leaves 6", hart.source(6), 1);
    }
    hart.store(152, 4);
    Check.is("not enabled in context 1", hart.source(4), 1);
    hart.store(152, 6);
    Check.is("served by 0, completed by 1", hart.source(6), 0);
    hart.store(136, 4);
    Check.is("completed by 0", hart.source(4), 0);
    Check.is("the lines are low", hart.load(64), 0);
  }

  private static void testCompleteNeedsEnabledThen() {
    TrapHart hart = withServed();
    hart.store(128, 0);
    hart.store(136, 4);
    Check.is("no more enabled", hart.source(4), 1);
    hart.store(128, 1 << 4);
    hart.store(16, 0);
    hart.store(132, 7);
    hart.store(136, 4);
    Check.is("priority and threshold do not matter", hart.source(4), 0);
  }

  private static void testCompleteOfPendingDoesNothing() {
    TrapHart hart = new TrapHart(2);
    hart.store(4, 1);
    hart.store(128, 2);
    hart.lines(2);
    hart.lines(0);
    hart.lines(2);
    hart.store(136, 1);
    Check.is("still pending", hart.load(64), 2);
    Check.is("still one waiting", hart.source(1), 4);
  }

  private static void testCompleteForwards() {
    TrapHart level = withServed();
    level.lines(1 << 4);
    level.store(136, 4);
    level.store(136, 6);
    Check.is("one of level forwards its high line", level.load(64), 1 << 4);
  }

  private static void testRefused() {
    int[] wrong = {1, 2, 3, 65, 66, 67, 139, -1, -2, 0x7FFFFFFF};
    for (int at : wrong) {
      Check.refuses(
          "store(" + at + ", 1)",
          IllegalArgumentException.class,
          () -> Harts.busy(3),
          hart -> hart.store(at, 1));
    }
    int[] absent = {0, 68, 72, 124, 140, 156, 160, 188, 212, -4, -64, 256, 0x40000040};
    for (int at : absent) {
      Check.refuses(
          "store(" + at + ", 1)",
          IndexOutOfBoundsException.class,
          () -> Harts.busy(1),
          hart -> hart.store(at, 1));
    }
    for (int value : new int[] {0, 1, -1}) {
      Check.refuses(
          "store(64, " + value + ")",
          UnsupportedOperationException.class,
          () -> Harts.busy(0),
          hart -> hart.store(64, value));
    }
  }

  public static void main(String[] args) {
    testWhatIsKept();
    testHalvesAreApart();
    testComplete();
    testCompleteNeedsEnabledThen();
    testCompleteOfPendingDoesNothing();
    testCompleteForwards();
    testRefused();
    Check.end("Promise05StoreTest");
  }
}
