import java.util.NoSuchElementException;

/** Promise 7: which registers there are, who may read them, and what PENDING shows. */
public final class Promise07ReadTest {
  private static boolean isIn(int[] row, int number) {
    for (int each : row) {
      if (each == number) {
        return true;
      }
    }
    return false;
  }

  private static void testNumber(int number, int privilege) {
    String call = "read(" + number + ") in privilege " + privilege;
    boolean machines = isIn(Harts.MACHINES, number);
    if (!machines && !isIn(Harts.SUPERVISORS, number)) {
      Check.refuses(
          call, NoSuchElementException.class, () -> Harts.busy(privilege), h -> h.read(number));
    } else if (privilege < (machines ? 3 : 1)) {
      Check.refuses(
          call, IllegalStateException.class, () -> Harts.busy(privilege), h -> h.read(number));
    } else {
      TrapHart hart = Harts.busy(privilege);
      hart.read(number);
      Check.same(call, Check.drain(hart), Check.drain(Harts.busy(privilege)));
    }
  }

  private static void testNumbers() {
    for (int privilege : new int[] {0, 1, 3}) {
      for (int number = 250; number <= 330; number++) {
        testNumber(number, privilege);
      }
      for (int number = 760; number <= 840; number++) {
        testNumber(number, privilege);
      }
      for (int number : new int[] {0, -1, 1, 512, 4096, Integer.MAX_VALUE, Integer.MIN_VALUE}) {
        testNumber(number, privilege);
      }
    }
  }

  private static void testPendingShowsTheDevices() {
    TrapHart hart = new TrapHart(0);
    hart.store(192, 1);
    Check.is("soft", hart.read(Harts.PENDING), 1 << 3);
    hart.store(192, 0);
    hart.store(196, 0);
    hart.store(200, 0);
    Check.is("timer", hart.read(Harts.PENDING), 1 << 7);
    hart.store(200, 1);
    hart.store(4 * 7, 3);
    hart.lines(1 << 7);
    Check.is("enabled nowhere", hart.read(Harts.PENDING), 0);
    hart.store(128, 1 << 7);
    Check.is("context 0 calls", hart.read(Harts.PENDING), 1 << 11);
    hart.store(128, 0);
    hart.store(144, 1 << 7);
    Check.is("context 1 calls", hart.read(Harts.PENDING), 1 << 9);
    hart.store(148, 3);
    Check.is("priority is the threshold", hart.read(Harts.PENDING), 0);
    hart.store(148, 2);
    Check.is("priority is above it", hart.read(Harts.PENDING), 1 << 9);
    hart.store(4 * 7, 0);
    hart.store(148, 0);
    Check.is("priority 0 is never above", hart.read(Harts.PENDING), 0);
    hart.store(4 * 7, 1);
    Check.is("priority 1, threshold 0", hart.read(Harts.PENDING), 1 << 9);
    hart.load(152);
    Check.is("claimed, so no more pending", hart.read(Harts.PENDING), 0);
  }

  private static void testPendingShowsAllAtOnce() {
    TrapHart hart = new TrapHart(0);
    hart.store(192, 1);
    hart.store(196, 0);
    hart.store(200, 0);
    hart.store(4, 1);
    hart.store(128, 2);
    hart.store(144, 2);
    hart.lines(2);
    Check.is("the devices'", hart.read(Harts.PENDING), 0xA88);
    hart.write(Harts.PENDING, 0x22);
    Check.is("and the written", hart.read(Harts.PENDING), 0xAAA);
  }

  private static void testAnySourceAboveTheThresholdCalls() {
    TrapHart hart = new TrapHart(0);
    hart.store(132, 4);
    hart.store(128, 1 << 2 | 1 << 12);
    hart.store(4 * 2, 4);
    hart.store(4 * 12, 5);
    hart.lines(1 << 2);
    Check.is("4 is not above 4", hart.read(Harts.PENDING), 0);
    hart.lines(1 << 12);
    Check.is("5 is", hart.read(Harts.PENDING), 1 << 11);
  }

  private static void testWrittenOrCalling() {
    TrapHart hart = new TrapHart(0);
    hart.write(Harts.PENDING, 1 << 9);
    hart.store(4, 1);
    hart.store(144, 2);
    hart.lines(2);
    Check.is("both", hart.read(Harts.PENDING), 1 << 9);
    hart.load(152);
    Check.is("as it was written", hart.read(Harts.PENDING), 1 << 9);
    hart.lines(2);
    hart.store(152, 1);
    hart.write(Harts.PENDING, 0);
    Check.is("as context 1 calls", hart.read(Harts.PENDING), 1 << 9);
    hart.load(152);
    Check.is("neither", hart.read(Harts.PENDING), 0);
  }

  private static void testSupervisorSeesTheDelegated() {
    TrapHart hart = new TrapHart(0);
    hart.write(Harts.PENDING, -1);
    hart.write(Harts.ENABLED, -1);
    hart.store(192, 1);
    for (int set : new int[] {0, 2, 0x20, 0x200, 0x202, 0x222}) {
      hart.write(Harts.DELEGATED_INTERRUPTS, set);
      Check.is("PENDING of " + set, hart.read(Harts.S_PENDING), set);
      Check.is("ENABLED of " + set, hart.read(Harts.S_ENABLED), set);
    }
    hart.write(Harts.PENDING, 0);
    Check.is("none written", hart.read(Harts.S_PENDING), 0);
    hart.store(4, 1);
    hart.store(144, 2);
    hart.lines(2);
    Check.is("context 1 calls", hart.read(Harts.S_PENDING), 1 << 9);
    hart.write(Harts.STATUS, -1);
    Check.is("STATUS in part", hart.read(Harts.S_STATUS), 0x122);
  }

  public static void main(String[] args) {
    testNumbers();
    testPendingShowsTheDevices();
    testPendingShowsAllAtOnce();
    testAnySourceAboveTheThresholdCalls();
    testWrittenOrCalling();
    testSupervisorSeesTheDelegated();
    Check.end("Promise07ReadTest");
  }
}
