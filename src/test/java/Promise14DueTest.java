/** Promise 14: which interrupt is due, and which of several is taken. */
public final class Promise14DueTest {
  private static final int[] ALL = {1, 3, 5, 7, 9, 11};
  private static final int[] ORDER = {11, 3, 7, 9, 1, 5};

  /** The interrupts of the set pend: those of the devices by them, the others as written. */
  private static TrapHart with(int pending, int enabled, int delegated) {
    TrapHart hart = new TrapHart(0);
    hart.store(192, pending >> 3);
    hart.store(196, 0);
    hart.store(200, (pending & 1 << 7) != 0 ? 0 : 1);
    hart.store(4, 1);
    hart.store(128, (pending & 1 << 11) != 0 ? 2 : 0);
    hart.lines(2);
    hart.write(Harts.PENDING, pending);
    hart.write(Harts.ENABLED, enabled);
    hart.write(Harts.DELEGATED_INTERRUPTS, delegated);
    return hart;
  }

  private static void checkDue(String what, TrapHart hart, int due) {
    Check.is(what, hart.due(), due);
    Check.is(what + ", asked again", hart.due(), due);
    Check.is(what + ", by step", hart.step(), due);
  }

  private static void testEachAlone() {
    for (int interrupt : ALL) {
      for (int privilege : new int[] {0, 1, 3}) {
        for (int open = 0; open < 4; open++) {
          int status = (open & 1) << 1 | (open & 2) << 2;
          String what = interrupt + " in privilege " + privilege + ", STATUS " + status;
          checkAlone(what, interrupt, privilege, status, 0);
          checkAlone(what + ", delegated", interrupt, privilege, status, -1);
        }
      }
    }
  }

  private static void checkAlone(
      String what, int interrupt, int privilege, int status, int delegated) {
    boolean goesToSupervisor = delegated != 0 && (0x222 >> interrupt & 1) != 0;
    boolean open;
    if (goesToSupervisor) {
      open = privilege == 0 || privilege == 1 && (status & 2) != 0;
    } else {
      open = privilege != 3 || (status & 8) != 0;
    }
    TrapHart hart = with(1 << interrupt, 1 << interrupt, delegated);
    hart.write(Harts.STATUS, status);
    checkDue(what, Harts.go(hart, privilege, 0x40), open ? interrupt : -1);

    TrapHart notEnabled = with(1 << interrupt, ~(1 << interrupt), delegated);
    notEnabled.write(Harts.STATUS, 0xA);
    checkDue(what + ", not enabled", Harts.go(notEnabled, privilege, 0x40), -1);

    TrapHart notPending = with(~(1 << interrupt), 1 << interrupt, delegated);
    notPending.write(Harts.STATUS, 0xA);
    checkDue(what + ", not pending", Harts.go(notPending, privilege, 0x40), -1);
  }

  private static void testOrder() {
    int set = 0xAAA;
    for (int first : ORDER) {
      checkDue("none delegated " + set, Harts.go(with(set, -1, 0), 0, 0), first);
      checkDue("enabled " + set, Harts.go(with(-1, set, 0), 0, 0), first);
      set &= ~(1 << first);
    }
    checkDue("none left", Harts.go(with(set, -1, 0), 0, 0), -1);
  }

  private static void testOrderOfDelegated() {
    checkDue("9 of all", Harts.go(with(0x222, -1, -1), 0, 0), 9);
    checkDue("1 before 5", Harts.go(with(0x022, -1, -1), 0, 0), 1);
    checkDue("5", Harts.go(with(0x020, -1, -1), 0, 0), 5);
    checkDue("5 is not delegated, 9 and 1 are", Harts.go(with(0x222, -1, 0x202), 0, 0), 5);
    checkDue("1 is not delegated, 9 and 5 are", Harts.go(with(0x222, -1, 0x220), 0, 0), 1);
    checkDue("7 comes before the delegated 9", Harts.go(with(0x280, -1, -1), 0, 0), 7);
  }

  private static void testClosedMachineInItsOwnPrivilege() {
    TrapHart hart = with(-1, -1, 0x222);
    hart.write(Harts.STATUS, 2);
    checkDue("M is 0, and the delegated are never due in 3", hart, -1);
  }

  private static void testClosedSupervisor() {
    TrapHart hart = with(0x222, -1, 0x202);
    checkDue("S is 0, but 5 is the machine's", Harts.go(hart, 1, 0), 5);
    TrapHart closed = with(0x222, -1, 0x222);
    closed.write(Harts.STATUS, 8);
    checkDue("S is 0, M does not matter", Harts.go(closed, 1, 0), -1);
  }

  private static void testContextOneCalls() {
    TrapHart hart = new TrapHart(0);
    hart.store(4 * 15, 1);
    hart.store(144, 1 << 15);
    hart.write(Harts.ENABLED, 1 << 9);
    Harts.go(hart, 0, 0);
    Check.is("nothing pends", hart.due(), -1);
    hart.lines(1 << 15);
    Check.is("context 1 calls", hart.due(), 9);
    hart.load(152);
    Check.is("claimed", hart.due(), -1);
  }

  private static void testAsking() {
    for (int privilege : new int[] {0, 1, 3}) {
      TrapHart asked = Harts.busy(privilege);
      asked.due();
      Check.same("asking", Check.drain(asked), Check.drain(Harts.busy(privilege)));
    }
  }

  public static void main(String[] args) {
    testEachAlone();
    testOrder();
    testOrderOfDelegated();
    testClosedMachineInItsOwnPrivilege();
    testClosedSupervisor();
    testContextOneCalls();
    testAsking();
    Check.end("Promise14DueTest");
  }
}
