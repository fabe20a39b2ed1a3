import java.util.NoSuchElementException;

/** Promise 8: what registers keep of what is written, and who may write them. */
public final class Promise08WriteTest {
  private static void checkKept(int register, int kept) {
    for (int value : new int[] {-1, 0, 0x55555555, 0xAAAAAAAA, 0x80000001}) {
      TrapHart hart = new TrapHart(0);
      hart.write(register, -1);
      Check.is("write(" + register + ", -1)", hart.read(register), kept);
      hart.write(register, value);
      Check.is("write(" + register + ", " + value + ")", hart.read(register), value & kept);
    }
  }

  private static void testWhatIsKept() {
    checkKept(Harts.DELEGATED_EXCEPTIONS, 0xB3FF);
    checkKept(Harts.DELEGATED_INTERRUPTS, 0x222);
    checkKept(Harts.ENABLED, 0xAAA);
    checkKept(Harts.VECTOR, ~2);
    checkKept(Harts.S_VECTOR, ~2);
    checkKept(Harts.RETURN, ~3);
    checkKept(Harts.S_RETURN, ~3);
    checkKept(Harts.CAUSE, -1);
    checkKept(Harts.S_CAUSE, -1);
    checkKept(Harts.PENDING, 0x222);
  }

  private static void testMachinesAndSupervisorsAreApart() {
    TrapHart hart = new TrapHart(0);
    hart.write(Harts.VECTOR, 0x100);
    hart.write(Harts.S_VECTOR, 0x200);
    hart.write(Harts.RETURN, 0x300);
    hart.write(Harts.S_RETURN, 0x400);
    hart.write(Harts.CAUSE, 5);
    hart.write(Harts.S_CAUSE, 6);
    Check.is("VECTOR", hart.read(Harts.VECTOR), 0x100);
    Check.is("S_VECTOR", hart.read(Harts.S_VECTOR), 0x200);
    Check.is("RETURN", hart.read(Harts.RETURN), 0x300);
    Check.is("S_RETURN", hart.read(Harts.S_RETURN), 0x400);
    Check.is("CAUSE", hart.read(Harts.CAUSE), 5);
    Check.is("S_CAUSE", hart.read(Harts.S_CAUSE), 6);
    Check.is("the PC stays", hart.pc(), 0);
  }

  private static void testStatus() {
    TrapHart hart = new TrapHart(0);
    hart.write(Harts.STATUS, -1);
    Check.is("all its bits", hart.read(Harts.STATUS), 0x19AA);
    hart.write(Harts.STATUS, 0x1000);
    Check.is("2 leaves bits 11 and 12, the others change", hart.read(Harts.STATUS), 0x1800);
    hart.write(Harts.STATUS, 0x0800);
    Check.is("1 is written", hart.read(Harts.STATUS), 0x0800);
    hart.write(Harts.STATUS, 0x11AA);
    Check.is("2 leaves 1", hart.read(Harts.STATUS), 0x09AA);
    hart.write(Harts.STATUS, 0);
    Check.is("0 is written", hart.read(Harts.STATUS), 0);
    hart.write(Harts.STATUS, 0x1000);
    Check.is("2 leaves 0", hart.read(Harts.STATUS), 0);
    hart.write(Harts.STATUS, ~0x19AA);
    Check.is("the other bits are none", hart.read(Harts.STATUS), 0);
  }

  private static void testSupervisorsStatus() {
    TrapHart hart = new TrapHart(0);
    hart.write(Harts.S_STATUS, -1);
    Check.is("only its bits", hart.read(Harts.STATUS), 0x122);
    hart.write(Harts.STATUS, -1);
    hart.write(Harts.S_STATUS, 0);
    Check.is("the others stay", hart.read(Harts.STATUS), 0x1888);
    hart.write(Harts.S_STATUS, 0x1020);
    Check.is("old S alone", hart.read(Harts.STATUS), 0x18A8);
  }

  private static void testSupervisorsInterrupts() {
    TrapHart hart = new TrapHart(0);
    hart.write(Harts.S_ENABLED, -1);
    hart.write(Harts.S_PENDING, -1);
    Check.is("none delegated: ENABLED stays", hart.read(Harts.ENABLED), 0);
    Check.is("none delegated: PENDING stays", hart.read(Harts.PENDING), 0);
    hart.write(Harts.DELEGATED_INTERRUPTS, 0x220);
    hart.write(Harts.S_ENABLED, -1);
    hart.write(Harts.S_PENDING, -1);
    Check.is("ENABLED", hart.read(Harts.ENABLED), 0x220);
    Check.is("5 and 9 can't be written in PENDING", hart.read(Harts.PENDING), 0);
    hart.write(Harts.ENABLED, -1);
    hart.write(Harts.S_ENABLED, 0x20);
    Check.is("ENABLED but 9", hart.read(Harts.ENABLED), 0x8AA);
    hart.write(Harts.DELEGATED_INTERRUPTS, 0x2);
    hart.write(Harts.S_PENDING, -1);
    Check.is("1 can be written", hart.read(Harts.PENDING), 2);
    hart.write(Harts.PENDING, 0x222);
    hart.write(Harts.S_PENDING, 0);
    Check.is("1 alone is cleared", hart.read(Harts.PENDING), 0x220);
  }

  /** Writing shown bits of the devices does nothing, and what they show is not kept as written. */
  private static void testPendingOfDevices() {
    TrapHart hart = new TrapHart(0);
    hart.store(4, 1);
    hart.store(144, 2);
    hart.lines(2);
    hart.write(Harts.DELEGATED_INTERRUPTS, 0x222);
    hart.write(Harts.S_PENDING, 0x202);
    hart.load(152);
    Check.is("9 was shown, not written", hart.read(Harts.PENDING), 2);
    hart.store(192, 1);
    hart.write(Harts.PENDING, 0);
    Check.is("the soft bit stays", hart.read(Harts.PENDING), 8);
  }

  private static void testInSupervisor() {
    TrapHart hart = Harts.at(1);
    for (int register : new int[] {Harts.S_VECTOR, Harts.S_RETURN, Harts.S_CAUSE}) {
      hart.write(register, 0x1230);
      Check.is("register " + register, hart.read(register), 0x1230);
    }
  }

  private static void testRefused() {
    for (int privilege : new int[] {0, 1, 3}) {
      for (int none : new int[] {0, -1, 255, 257, 258, 320, 323, 325, 769, 774, 832, 835, 837}) {
        Check.refuses(
            "write(" + none + ") in privilege " + privilege,
            NoSuchElementException.class,
            () -> Harts.busy(privilege),
            hart -> hart.write(none, 0));
      }
    }
    for (int privilege : new int[] {0, 1}) {
      for (int register : Harts.MACHINES) {
        checkTooLow(register, privilege);
      }
    }
    for (int register : Harts.SUPERVISORS) {
      checkTooLow(register, 0);
    }
  }

  private static void checkTooLow(int register, int privilege) {
    for (int value : new int[] {0, -1}) {
      Check.refuses(
          "write(" + register + ", " + value + ") in privilege " + privilege,
          IllegalStateException.class,
          () -> Harts.busy(privilege),
          hart -> hart.write(register, value));
    }
  }

  public static void main(String[] args) {
    testWhatIsKept();
    testMachinesAndSupervisorsAreApart();
    testStatus();
    testSupervisorsStatus();
    testSupervisorsInterrupts();
    testPendingOfDevices();
    testInSupervisor();
    testRefused();
    Check.end("Promise08WriteTest");
  }
}
