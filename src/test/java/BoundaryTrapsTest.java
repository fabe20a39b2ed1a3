/** Terms, the boundaries of traps and of the interrupts that are due. */
public final class BoundaryTrapsTest {
  private static final int[] PRIVILEGES = {0, 1, 3};
  private static final int[] ORDER = {11, 3, 7, 9, 1, 5};
  private static final int[] CAUSES = {0, 1, 2, 3, 4, 5, 6, 7, 8, 9, 11, 12, 13, 15};
  private static final int VECTOR = 0x4000;
  private static final int S_VECTOR = 0x8000;
  private static final int BY_INTERRUPT = Integer.MIN_VALUE;

  /** In the machine's privilege; of the interrupts just those of the set are pending. */
  private static TrapHart pending(int set) {
    TrapHart hart = new TrapHart(0);
    hart.store(192, set >> 3);
    hart.store(196, 0);
    hart.store(200, (set & 1 << 7) != 0 ? 0 : 1);
    hart.store(4, 1);
    hart.store(128, (set & 1 << 11) != 0 ? 2 : 0);
    hart.lines(2);
    hart.write(Harts.PENDING, set);
    hart.write(Harts.VECTOR, VECTOR);
    hart.write(Harts.S_VECTOR, S_VECTOR);
    return hart;
  }

  private static TrapHart with(int pending, int enabled, int delegated, int status) {
    TrapHart hart = pending(pending);
    hart.write(Harts.ENABLED, enabled);
    hart.write(Harts.DELEGATED_INTERRUPTS, delegated);
    hart.write(Harts.STATUS, status);
    return hart;
  }

  /** No interrupt is pending; these exceptions are delegated. */
  private static TrapHart delegating(int exceptions) {
    TrapHart hart = pending(0);
    hart.write(Harts.DELEGATED_EXCEPTIONS, exceptions);
    return hart;
  }

  private static void checkDue(TrapHart hart, int due) {
    Check.is("due", hart.due(), due);
    Check.is("step", hart.step(), due);
  }

  private static void delegatedFromPrivilege(int privilege, int due) {
    Check.is("exception", Harts.go(delegating(-1), privilege, 0).raise(2), due);
  }

  private static void delegatedInterruptFromPrivilege(int privilege) {
    TrapHart hart = Harts.go(with(0x222, -1, 0x222, 2), privilege, 0);
    hart.step();
    Check.is("to the supervisor", hart.privilege(), 1);
  }

  private static void exceptionsAskTheDelegatedExceptions() {
    for (int cause : new int[] {1, 5, 9}) {
      TrapHart hart = delegating(0);
      hart.write(Harts.DELEGATED_INTERRUPTS, 0x222);
      Check.is("exception " + cause, Harts.go(hart, 0, 0).raise(cause), 3);
    }
  }

  private static void interruptsAskTheDelegatedInterrupts() {
    for (int interrupt : ORDER) {
      TrapHart hart = with(1 << interrupt, 1 << interrupt, 0, 0);
      hart.write(Harts.DELEGATED_EXCEPTIONS, -1);
      Harts.go(hart, 0, 0);
      hart.step();
      Check.is("interrupt " + interrupt, hart.privilege(), 3);
    }
  }

  private static void eachExceptionByItsOwnBit() {
    for (int cause : CAUSES) {
      int alone = Harts.go(delegating(1 << cause), 0, 0).raise(cause);
      Check.is("its bit alone, " + cause, alone, cause == 11 ? 3 : 1);
      int others = Harts.go(delegating(~(1 << cause)), 0, 0).raise(cause);
      Check.is("all but its bit, " + cause, others, 3);
    }
  }

  private static void elevenIsNeverDelegated() {
    for (int privilege : new int[] {0, 1}) {
      Check.is("raise(11)", Harts.go(delegating(-1), privilege, 0).raise(11), 3);
    }
  }

  private static void checkReturn(int pc) {
    TrapHart machine = Harts.go(delegating(0), 0, pc);
    machine.raise(0);
    Check.is("the machine's", machine.read(Harts.RETURN), pc & ~3);
    Check.is("the supervisor's stays", machine.read(Harts.S_RETURN), 0);
    TrapHart supervisor = Harts.go(delegating(-1), 0, pc);
    supervisor.raise(0);
    Check.is("the supervisor's", supervisor.read(Harts.S_RETURN), pc & ~3);
  }

  private static void causesOfExceptions() {
    for (int cause : CAUSES) {
      TrapHart hart = delegating(0);
      hart.write(Harts.CAUSE, -1);
      hart.raise(cause);
      Check.is("CAUSE of " + cause, hart.read(Harts.CAUSE), cause);
    }
  }

  private static void causesOfInterrupts() {
    for (int interrupt : ORDER) {
      TrapHart machine = with(1 << interrupt, 1 << interrupt, 0, 8);
      machine.step();
      Check.is("CAUSE", machine.read(Harts.CAUSE), interrupt | BY_INTERRUPT);
      Check.is("S_CAUSE stays", machine.read(Harts.S_CAUSE), 0);
    }
    for (int interrupt : new int[] {1, 5, 9}) {
      TrapHart supervisor = Harts.go(with(1 << interrupt, 1 << interrupt, -1, 0), 0, 0);
      supervisor.step();
      Check.is("S_CAUSE", supervisor.read(Harts.S_CAUSE), interrupt | BY_INTERRUPT);
    }
  }

  private static void machinesOldBit() {
    for (int m : new int[] {0, 8}) {
      for (int old : new int[] {0, 0x80}) {
        TrapHart hart = delegating(0);
        hart.write(Harts.STATUS, m | old);
        hart.raise(0);
        Check.is("M " + m + ", old M " + old, hart.read(Harts.STATUS), m << 4 | 3 << 11);
      }
    }
  }

  private static void supervisorsOldBit() {
    for (int s : new int[] {0, 2}) {
      for (int old : new int[] {0, 0x20}) {
        TrapHart hart = delegating(-1);
        hart.write(Harts.STATUS, s | old);
        Harts.go(hart, 0, 0).raise(0);
        Check.is("S " + s + ", old S " + old, hart.read(Harts.S_STATUS), s << 4);
      }
    }
  }

  private static void machineLeavesTheSupervisorsBits() {
    for (int bits : new int[] {0, 0x2, 0x20, 0x100, 0x122}) {
      TrapHart hart = delegating(0);
      hart.write(Harts.STATUS, bits);
      hart.raise(0);
      Check.is("bits " + bits, hart.read(Harts.S_STATUS), bits);
    }
  }

  private static void supervisorLeavesTheMachinesBits() {
    for (int m : new int[] {0, 8}) {
      TrapHart hart = delegating(-1);
      hart.write(Harts.STATUS, m);
      Harts.go(hart, 0, 0).raise(0);
      hart.raise(11);
      Check.is("M " + m, hart.read(Harts.STATUS), m << 4 | 1 << 11);
    }
  }

  private static void bitEightOfUserAndSupervisor() {
    for (int was : new int[] {0, 0x100}) {
      for (int privilege : new int[] {0, 1}) {
        TrapHart hart = delegating(-1);
        hart.write(Harts.STATUS, was);
        Harts.go(hart, privilege, 0).raise(0);
        Check.is("from " + privilege, hart.read(Harts.S_STATUS), privilege << 8);
      }
    }
  }

  private static void bitsElevenAndTwelveOfAllThree() {
    for (int privilege : PRIVILEGES) {
      TrapHart hart = Harts.go(delegating(0), privilege, 0);
      hart.raise(0);
      Check.is("from " + privilege, hart.read(Harts.STATUS), privilege << 11);
    }
  }

  private static void bitsElevenAndTwelveOverOthers() {
    TrapHart hart = delegating(0);
    hart.raise(0);
    hart.raise(0);
    Check.is("3 over 3", hart.read(Harts.STATUS), 3 << 11);
    hart.write(Harts.STATUS, 1 << 11);
    hart.raise(0);
    Check.is("3 over 1", hart.read(Harts.STATUS), 3 << 11);
  }

  private static void privilegeAfterEachTrap() {
    for (int privilege : PRIVILEGES) {
      TrapHart machine = Harts.go(delegating(0), privilege, 0);
      machine.raise(0);
      Check.is("machine's, from " + privilege, machine.privilege(), 3);
    }
    for (int privilege : new int[] {0, 1}) {
      TrapHart supervisor = Harts.go(delegating(-1), privilege, 0);
      supervisor.raise(0);
      Check.is("supervisor's, from " + privilege, supervisor.privilege(), 1);
    }
  }

  private static int pcByInterrupt(int interrupt, int vector) {
    TrapHart hart = with(1 << interrupt, 1 << interrupt, 0, 8);
    hart.write(Harts.VECTOR, vector);
    hart.step();
    return hart.pc();
  }

  private static int pcByDelegatedInterrupt(int interrupt, int vector) {
    TrapHart hart = with(1 << interrupt, 1 << interrupt, -1, 0);
    hart.write(Harts.S_VECTOR, vector);
    Harts.go(hart, 0, 0).step();
    return hart.pc();
  }

  private static void vectorBitZeroIsOne() {
    for (int interrupt : ORDER) {
      int due = VECTOR + 4 * interrupt;
      Check.is("machine", pcByInterrupt(interrupt, VECTOR | 1), due);
      Check.is("machine, bit 1 is none", pcByInterrupt(interrupt, VECTOR | 3), due);
    }
    for (int interrupt : new int[] {1, 5, 9}) {
      int pc = pcByDelegatedInterrupt(interrupt, S_VECTOR | 1);
      Check.is("supervisor", pc, S_VECTOR + 4 * interrupt);
    }
  }

  private static void vectorBitZeroIsZero() {
    for (int interrupt : ORDER) {
      Check.is("machine", pcByInterrupt(interrupt, VECTOR), VECTOR);
      Check.is("machine, bit 1 is none", pcByInterrupt(interrupt, VECTOR | 2), VECTOR);
    }
    for (int interrupt : new int[] {1, 5, 9}) {
      Check.is("supervisor", pcByDelegatedInterrupt(interrupt, S_VECTOR), S_VECTOR);
    }
  }

  private static void exceptionsIgnoreVectorBitZero() {
    for (int cause : CAUSES) {
      TrapHart hart = delegating(-1);
      hart.write(Harts.VECTOR, VECTOR | 1);
      hart.write(Harts.S_VECTOR, S_VECTOR | 1);
      hart.raise(cause);
      Check.is("machine", hart.pc(), VECTOR);
      Harts.go(hart, 0, 0).raise(cause);
      Check.is("supervisor", hart.pc(), cause == 11 ? VECTOR : S_VECTOR);
    }
  }

  private static void vectorsPcWraps() {
    Check.is("to 0", pcByInterrupt(1, -4 | 1), 0);
    Check.is("beyond 0", pcByInterrupt(11, -4 | 1), 40);
    Check.is("just not", pcByInterrupt(1, -8 | 1), -4);
    Check.is("over the sign", pcByInterrupt(1, 0x7FFFFFFC | 1), Integer.MIN_VALUE);
    Check.is("supervisor's", pcByDelegatedInterrupt(9, -4 | 1), 32);
  }

  private static void vectorsOfAllOrNoBits() {
    TrapHart hart = delegating(0);
    hart.write(Harts.VECTOR, -1);
    hart.raise(0);
    Check.is("all", hart.pc(), -4);
    hart.write(Harts.VECTOR, 0);
    hart.raise(0);
    Check.is("none", hart.pc(), 0);
    hart.write(Harts.VECTOR, 3);
    hart.raise(0);
    Check.is("bits 0 and 1 alone", hart.pc(), 0);
  }

  private static void pendingAloneIsNotDue() {
    for (int interrupt : ORDER) {
      checkDue(Harts.go(with(-1, 0, 0, 0xA), 0, 0), -1);
      checkDue(Harts.go(with(1 << interrupt, ~(1 << interrupt), 0, 0xA), 0, 0), -1);
    }
  }

  private static void enabledAloneIsNotDue() {
    for (int interrupt : ORDER) {
      checkDue(Harts.go(with(0, -1, 0, 0xA), 0, 0), -1);
      checkDue(Harts.go(with(~(1 << interrupt), 1 << interrupt, 0, 0xA), 0, 0), -1);
    }
  }

  private static void checkNotDelegated(int privilege, int status, boolean isDue) {
    for (int interrupt : ORDER) {
      TrapHart hart = with(1 << interrupt, -1, 0, status);
      checkDue(Harts.go(hart, privilege, 0), isDue ? interrupt : -1);
    }
  }

  private static void checkDelegated(int privilege, int status, boolean isDue) {
    for (int interrupt : new int[] {1, 5, 9}) {
      TrapHart hart = with(1 << interrupt, -1, 1 << interrupt, status);
      checkDue(Harts.go(hart, privilege, 0), isDue ? interrupt : -1);
    }
  }

  private static void undelegatedFirst() {
    for (int alone : new int[] {1, 5, 9}) {
      TrapHart hart = with(0x222, -1, 0x222 & ~(1 << alone), 0);
      checkDue(Harts.go(hart, 0, 0), alone);
    }
    checkDue(Harts.go(with(0x280, -1, 0x200, 0), 0, 0), 7);
    checkDue(Harts.go(with(0xA00, -1, 0x200, 0), 0, 0), 11);
  }

  /** In supervisor's privilege with S 0 the delegated are not due, so they hold nothing up. */
  private static void ofThoseThatAreDue() {
    checkDue(Harts.go(with(0x220, -1, 0x200, 0), 1, 0), 5);
    checkDue(with(0x220, -1, 0x200, 8), 5);
    checkDue(with(0x220, -1, 0x220, 0xA), -1);
  }

  private static void orderOfEachPair() {
    for (int first = 0; first < ORDER.length; first++) {
      for (int second = first + 1; second < ORDER.length; second++) {
        int set = 1 << ORDER[first] | 1 << ORDER[second];
        checkDue(Harts.go(with(set, -1, 0, 0), 0, 0), ORDER[first]);
      }
    }
  }

  private static void orderOfEachDelegatedPair() {
    checkDue(Harts.go(with(0x202, -1, 0x222, 0), 0, 0), 9);
    checkDue(Harts.go(with(0x220, -1, 0x222, 0), 0, 0), 9);
    checkDue(Harts.go(with(0x022, -1, 0x222, 0), 0, 0), 1);
  }

  private static void aTrapClosesWhatItUses() {
    TrapHart machine = with(8, -1, 0, 8);
    checkDue(machine, 3);
    checkDue(machine, -1);
    machine.leave(true);
    checkDue(machine, 3);
    TrapHart supervisor = Harts.go(with(0x20, -1, 0x20, 2), 1, 0);
    checkDue(supervisor, 5);
    checkDue(supervisor, -1);
    supervisor.leave(false);
    checkDue(supervisor, 5);
  }

  private static void testWhere() {
    String where = "goes to the supervisor if the privilege is 0 or 1";
    Check.test(where, "0", () -> delegatedFromPrivilege(0, 1));
    Check.test(where, "1", () -> delegatedFromPrivilege(1, 1));
    Check.test(where, "3", () -> delegatedFromPrivilege(3, 3));
    Check.test(where, "0, interrupt", () -> delegatedInterruptFromPrivilege(0));
    Check.test(where, "1, interrupt", () -> delegatedInterruptFromPrivilege(1));
    String bit = "the cause's bit is in the delegated interrupts or exceptions";
    Check.test(bit, "exceptions", BoundaryTrapsTest::exceptionsAskTheDelegatedExceptions);
    Check.test(bit, "interrupts", BoundaryTrapsTest::interruptsAskTheDelegatedInterrupts);
    Check.test(bit, "each", BoundaryTrapsTest::eachExceptionByItsOwnBit);
    Check.test(bit, "11", BoundaryTrapsTest::elevenIsNeverDelegated);
  }

  private static void testWrittenDown() {
    String comeBack = "RETURN becomes the PC (without its bits 0 and 1)";
    Check.test(comeBack, "0", () -> checkReturn(0));
    Check.test(comeBack, "bits 0 and 1", () -> checkReturn(0x103));
    Check.test(comeBack, "the greatest", () -> checkReturn(-1));
    Check.test(comeBack, "bit 31", () -> checkReturn(Integer.MIN_VALUE));
    String cause = "CAUSE the cause, with bit 31 if it is an interrupt";
    Check.test(cause, "exceptions", BoundaryTrapsTest::causesOfExceptions);
    Check.test(cause, "interrupts", BoundaryTrapsTest::causesOfInterrupts);
    String old = "the old bit (5 or 7) becomes that of S (or M), and that becomes 0";
    Check.test(old, "M", BoundaryTrapsTest::machinesOldBit);
    Check.test(old, "S", BoundaryTrapsTest::supervisorsOldBit);
    Check.test(old, "not S by the machine", BoundaryTrapsTest::machineLeavesTheSupervisorsBits);
    Check.test(old, "not M by the supervisor", BoundaryTrapsTest::supervisorLeavesTheMachinesBits);
    String before = "in bit 8 (for the supervisor: 1 if it was 1) or bits 11 and 12";
    Check.test(before, "bit 8", BoundaryTrapsTest::bitEightOfUserAndSupervisor);
    Check.test(before, "bits 11 and 12", BoundaryTrapsTest::bitsElevenAndTwelveOfAllThree);
    Check.test(before, "over others", BoundaryTrapsTest::bitsElevenAndTwelveOverOthers);
  }

  private static void testPrivilege() {
    String becomes = "the privilege becomes 1 or 3";
    Check.test(becomes, "from each", BoundaryTrapsTest::privilegeAfterEachTrap);
  }

  private static void testVector() {
    String vector = "plus 4 times the cause if it is an interrupt and VECTOR's bit 0 is 1";
    Check.test(vector, "1", BoundaryTrapsTest::vectorBitZeroIsOne);
    Check.test(vector, "0", BoundaryTrapsTest::vectorBitZeroIsZero);
    Check.test(vector, "exception", BoundaryTrapsTest::exceptionsIgnoreVectorBitZero);
    String wraps = "the PC is a number of 32 bits, at first 0, that wraps";
    Check.test(wraps, "by VECTOR", BoundaryTrapsTest::vectorsPcWraps);
    String without = "the PC VECTOR without its bits 0 and 1";
    Check.test(without, "all, none", BoundaryTrapsTest::vectorsOfAllOrNoBits);
  }

  private static void testDue() {
    String both = "An interrupt that is pending and enabled is DUE";
    Check.test(both, "pending alone", BoundaryTrapsTest::pendingAloneIsNotDue);
    Check.test(both, "enabled alone", BoundaryTrapsTest::enabledAloneIsNotDue);
    String machines = "if it isn't delegated, when the privilege isn't 3 or M is 1";
    Check.test(machines, "0, M 0", () -> checkNotDelegated(0, 0, true));
    Check.test(machines, "1, M 0", () -> checkNotDelegated(1, 0, true));
    Check.test(machines, "3, M 0", () -> checkNotDelegated(3, 2, false));
    Check.test(machines, "3, M 1", () -> checkNotDelegated(3, 8, true));
    String supervisors = "if it is delegated, when the privilege is 0, or it is 1 and S is 1";
    Check.test(supervisors, "0, S 0", () -> checkDelegated(0, 0, true));
    Check.test(supervisors, "1, S 0", () -> checkDelegated(1, 8, false));
    Check.test(supervisors, "1, S 1", () -> checkDelegated(1, 2, true));
    Check.test(supervisors, "3, S 1 and M 1", () -> checkDelegated(3, 0xA, false));
    String closes = "and that becomes 0";
    Check.test(closes, "not due again", BoundaryTrapsTest::aTrapClosesWhatItUses);
  }

  private static void testOrder() {
    String before = "all that aren't delegated come before those that are";
    Check.test(before, "the least of them too", BoundaryTrapsTest::undelegatedFirst);
    Check.test("Of those that are due", "not others", BoundaryTrapsTest::ofThoseThatAreDue);
    String order = "among either the first of 11, 3, 7, 9, 1, 5 is taken";
    Check.test(order, "each pair", BoundaryTrapsTest::orderOfEachPair);
    Check.test(order, "each delegated pair", BoundaryTrapsTest::orderOfEachDelegatedPair);
  }

  public static void main(String[] args) {
    testWhere();
    testWrittenDown();
    testPrivilege();
    testVector();
    testDue();
    testOrder();
    Check.end("BoundaryTrapsTest");
  }
}
