import java.util.NoSuchElementException;

/** Terms and promises 7 and 8, the boundaries of registers: which there are, for whom, of what. */
public final class BoundaryRegistersTest {
  private static final int LEAST = Integer.MIN_VALUE;
  private static final int GREATEST = Integer.MAX_VALUE;
  private static final int[] PRIVILEGES = {0, 1, 3};
  private static final int[] DELEGABLE_SETS = {0, 0x2, 0x20, 0x22, 0x200, 0x202, 0x220, 0x222};

  /** All registers; those in one row show the same bits. */
  private static final int[][] TOGETHER = {
    {Harts.STATUS, Harts.S_STATUS},
    {Harts.ENABLED, Harts.S_ENABLED},
    {Harts.PENDING, Harts.S_PENDING},
    {Harts.DELEGATED_INTERRUPTS},
    {Harts.DELEGATED_EXCEPTIONS},
    {Harts.VECTOR},
    {Harts.S_VECTOR},
    {Harts.RETURN},
    {Harts.S_RETURN},
    {Harts.CAUSE},
    {Harts.S_CAUSE}
  };

  private static void checkRead(
      int register, int privilege, Class<? extends RuntimeException> kind) {
    Check.refuses(
        "read(" + register + ") in privilege " + privilege,
        kind,
        () -> Harts.busy(privilege),
        hart -> hart.read(register));
  }

  private static void checkWrite(
      int register, int privilege, Class<? extends RuntimeException> kind) {
    for (int value : new int[] {0, -1}) {
      Check.refuses(
          "write(" + register + ", " + value + ") in privilege " + privilege,
          kind,
          () -> Harts.busy(privilege),
          hart -> hart.write(register, value));
    }
  }

  private static void checkNone(int... numbers) {
    for (int number : numbers) {
      for (int privilege : PRIVILEGES) {
        checkRead(number, privilege, NoSuchElementException.class);
        checkWrite(number, privilege, NoSuchElementException.class);
      }
    }
  }

  private static void checkTooLow(int[] registers, int privilege) {
    for (int register : registers) {
      checkRead(register, privilege, IllegalStateException.class);
      checkWrite(register, privilege, IllegalStateException.class);
    }
  }

  /** A register that throws here ends the case, and is told by it. */
  private static void checkHighEnough(int[] registers, int privilege) {
    for (int register : registers) {
      TrapHart hart = Harts.at(privilege);
      int value = hart.read(register);
      hart.write(register, value);
      Check.is("register " + register, hart.read(register), value);
    }
  }

  /** Each bit alone, all of them and none: those of the set are kept, the others never. */
  private static void checkKept(int register, int kept) {
    for (int bit = 0; bit < 32; bit++) {
      TrapHart alone = new TrapHart(0);
      alone.write(register, 1 << bit);
      Check.is(register + " written bit " + bit, alone.read(register), 1 << bit & kept);
      TrapHart without = new TrapHart(0);
      without.write(register, -1);
      without.write(register, ~(1 << bit));
      Check.is(register + " written all but " + bit, without.read(register), ~(1 << bit) & kept);
    }
    TrapHart hart = new TrapHart(0);
    hart.write(register, -1);
    Check.is(register + " written all", hart.read(register), kept);
    hart.write(register, 0);
    Check.is(register + " written 0", hart.read(register), 0);
  }

  private static void zeroAtFirst() {
    TrapHart hart = new TrapHart(-1);
    for (int register : Harts.MACHINES) {
      Check.is("register " + register, hart.read(register), 0);
    }
    for (int register : Harts.SUPERVISORS) {
      Check.is("register " + register, hart.read(register), 0);
    }
  }

  private static void statusHasItsBitsAlone() {
    int others = 0x1AA;
    for (int bit = 0; bit < 32; bit++) {
      if (bit != 12) {
        TrapHart hart = new TrapHart(0);
        hart.write(Harts.STATUS, 1 << bit);
        Check.is("bit " + bit, hart.read(Harts.STATUS), 1 << bit & (others | 1 << 11));
      }
    }
    TrapHart hart = new TrapHart(0);
    hart.write(Harts.STATUS, -1);
    Check.is("all", hart.read(Harts.STATUS), others | 3 << 11);
    hart.write(Harts.STATUS, 0);
    Check.is("none", hart.read(Harts.STATUS), 0);
  }

  private static void twoLeavesThePrivilegeBefore() {
    for (int before : PRIVILEGES) {
      TrapHart hart = new TrapHart(0);
      hart.write(Harts.STATUS, before << 11);
      hart.write(Harts.STATUS, 2 << 11);
      Check.is("2 over " + before, hart.read(Harts.STATUS), before << 11);
    }
  }

  private static void twoLetsTheOtherBitsChange() {
    for (int before : PRIVILEGES) {
      TrapHart hart = new TrapHart(0);
      hart.write(Harts.STATUS, before << 11);
      hart.write(Harts.STATUS, 2 << 11 | 0x1AA);
      Check.is("set", hart.read(Harts.STATUS), before << 11 | 0x1AA);
      hart.write(Harts.STATUS, 2 << 11);
      Check.is("cleared", hart.read(Harts.STATUS), before << 11);
    }
  }

  private static void otherPrivilegesAreWritten() {
    for (int before : PRIVILEGES) {
      for (int after : PRIVILEGES) {
        TrapHart hart = new TrapHart(0);
        hart.write(Harts.STATUS, before << 11);
        hart.write(Harts.STATUS, after << 11);
        Check.is(after + " over " + before, hart.read(Harts.STATUS), after << 11);
      }
    }
  }

  private static void privilegeTwoNeverIs() {
    for (int before : PRIVILEGES) {
      TrapHart hart = new TrapHart(0);
      hart.write(Harts.STATUS, before << 11);
      hart.write(Harts.STATUS, 2 << 11);
      Check.is("leave", hart.leave(true), before);
    }
  }

  private static void supervisorsStatusShowsThree() {
    for (int bit = 0; bit < 32; bit++) {
      TrapHart hart = new TrapHart(0);
      hart.write(Harts.STATUS, 1 << bit);
      Check.is("bit " + bit, hart.read(Harts.S_STATUS), 1 << bit & 0x122);
    }
  }

  private static void supervisorsStatusChangesThree() {
    for (int bit = 0; bit < 32; bit++) {
      TrapHart clear = new TrapHart(0);
      clear.write(Harts.S_STATUS, 1 << bit);
      Check.is("bit " + bit + " set", clear.read(Harts.STATUS), 1 << bit & 0x122);
      TrapHart full = new TrapHart(0);
      full.write(Harts.STATUS, -1);
      full.write(Harts.S_STATUS, ~(1 << bit));
      Check.is("bit " + bit + " cleared", full.read(Harts.STATUS), 0x19AA & ~(1 << bit & 0x122));
    }
  }

  private static void supervisorsStatusIgnoresTwo() {
    TrapHart hart = new TrapHart(0);
    hart.write(Harts.STATUS, 3 << 11 | 0x122);
    hart.write(Harts.S_STATUS, 2 << 11);
    Check.is("2 is nothing there", hart.read(Harts.STATUS), 3 << 11);
    hart.write(Harts.S_STATUS, 1 << 11 | 0x122);
    Check.is("nor is 1", hart.read(Harts.STATUS), 3 << 11 | 0x122);
  }

  /** All of the devices' interrupts are pending. */
  private static TrapHart allCalling() {
    TrapHart hart = new TrapHart(0);
    hart.store(192, 1);
    hart.store(196, 0);
    hart.store(200, 0);
    hart.store(4, 1);
    hart.store(128, 2);
    hart.store(144, 2);
    hart.lines(2);
    return hart;
  }

  private static void devicesBitsAreNotWritten() {
    TrapHart hart = allCalling();
    hart.write(Harts.PENDING, 0);
    Check.is("not cleared", hart.read(Harts.PENDING), 0xA88);
    TrapHart quiet = new TrapHart(0);
    quiet.write(Harts.PENDING, 0xA88);
    Check.is("not set, but 9", quiet.read(Harts.PENDING), 1 << 9);
  }

  private static void nineIsWrittenOrCalling() {
    for (int written : new int[] {0, 1 << 9}) {
      for (int calling : new int[] {0, 1 << 9}) {
        TrapHart hart = new TrapHart(0);
        hart.store(4, 1);
        hart.store(144, 2);
        hart.lines(calling == 0 ? 0 : 2);
        hart.write(Harts.PENDING, written);
        String what = "written " + written + ", calling " + calling;
        Check.is(what, hart.read(Harts.PENDING), written | calling);
        hart.load(152);
        Check.is(what + ", then claimed", hart.read(Harts.PENDING), written);
      }
    }
  }

  private static void callingNineIsNotTakenAsWritten() {
    TrapHart hart = allCalling();
    hart.write(Harts.DELEGATED_INTERRUPTS, 0x222);
    hart.write(Harts.S_PENDING, hart.read(Harts.S_PENDING) | 2);
    hart.load(152);
    Check.is("9 is gone", hart.read(Harts.S_PENDING), 2);
  }

  private static void elevenIsOfContextZeroAlone() {
    TrapHart hart = allCalling();
    hart.store(128, 0);
    Check.is("11 is gone, 9 stays", hart.read(Harts.PENDING), 0x288);
    hart.store(128, 2);
    hart.store(144, 0);
    Check.is("9 is gone, 11 stays", hart.read(Harts.PENDING), 0x888);
  }

  private static void oneAndFiveAreAsWritten() {
    for (int bits : new int[] {0, 0x2, 0x20, 0x22}) {
      TrapHart hart = allCalling();
      hart.write(Harts.PENDING, bits);
      Check.is("written " + bits, hart.read(Harts.PENDING), 0xA88 | bits);
      hart.step();
      Check.is("then", hart.read(Harts.PENDING), 0xA88 | bits);
    }
  }

  /** A trap does not put out what it was taken for. */
  private static void takenStaysWritten() {
    TrapHart hart = new TrapHart(0);
    hart.write(Harts.PENDING, 0x222);
    hart.write(Harts.ENABLED, -1);
    hart.write(Harts.STATUS, 8);
    Check.is("taken", hart.step(), 9);
    Check.is("PENDING", hart.read(Harts.PENDING), 0x222);
  }

  private static void supervisorSeesTheDelegatedOfEnabled() {
    for (int set : DELEGABLE_SETS) {
      TrapHart hart = new TrapHart(0);
      hart.write(Harts.ENABLED, -1);
      hart.write(Harts.DELEGATED_INTERRUPTS, set);
      Check.is("delegated " + set, hart.read(Harts.S_ENABLED), set);
      hart.write(Harts.ENABLED, 0);
      Check.is("delegated " + set + ", none enabled", hart.read(Harts.S_ENABLED), 0);
    }
  }

  private static void supervisorSeesTheDelegatedOfPending() {
    for (int set : DELEGABLE_SETS) {
      TrapHart hart = allCalling();
      hart.write(Harts.PENDING, -1);
      hart.write(Harts.DELEGATED_INTERRUPTS, set);
      Check.is("delegated " + set, hart.read(Harts.S_PENDING), set);
      hart.write(Harts.PENDING, 0);
      Check.is("delegated " + set + ", 9 calls", hart.read(Harts.S_PENDING), set & 1 << 9);
    }
  }

  private static void supervisorChangesTheDelegatedOfEnabled() {
    for (int set : DELEGABLE_SETS) {
      TrapHart hart = new TrapHart(0);
      hart.write(Harts.DELEGATED_INTERRUPTS, set);
      hart.write(Harts.S_ENABLED, -1);
      Check.is("delegated " + set + ", set", hart.read(Harts.ENABLED), set);
      hart.write(Harts.ENABLED, -1);
      hart.write(Harts.S_ENABLED, 0);
      Check.is("delegated " + set + ", cleared", hart.read(Harts.ENABLED), 0xAAA & ~set);
    }
  }

  private static void supervisorChangesBitOneOfPending() {
    for (int set : DELEGABLE_SETS) {
      TrapHart hart = new TrapHart(0);
      hart.write(Harts.DELEGATED_INTERRUPTS, set);
      hart.write(Harts.S_PENDING, -1);
      Check.is("delegated " + set + ", set", hart.read(Harts.PENDING), set & 2);
      hart.write(Harts.PENDING, -1);
      hart.write(Harts.S_PENDING, 0);
      Check.is("delegated " + set + ", cleared", hart.read(Harts.PENDING), 0x222 & ~(set & 2));
    }
  }

  private static void notDelegatedIsHiddenNotLost() {
    TrapHart hart = new TrapHart(0);
    hart.write(Harts.DELEGATED_INTERRUPTS, 0x222);
    hart.write(Harts.S_ENABLED, 0x222);
    hart.write(Harts.S_PENDING, 2);
    hart.write(Harts.DELEGATED_INTERRUPTS, 0);
    Check.is("ENABLED is hidden", hart.read(Harts.S_ENABLED), 0);
    Check.is("PENDING is hidden", hart.read(Harts.S_PENDING), 0);
    Check.is("the machine's ENABLED", hart.read(Harts.ENABLED), 0x222);
    Check.is("the machine's PENDING", hart.read(Harts.PENDING), 2);
  }

  private static void othersStay() {
    for (int[] written : TOGETHER) {
      for (int register : written) {
        for (int[] others : TOGETHER) {
          if (others != written) {
            checkStay(register, others);
          }
        }
      }
    }
  }

  /** All interrupts are delegated before, so that what the supervisor is shown does not change. */
  private static void checkStay(int written, int[] others) {
    for (int other : others) {
      for (int value : new int[] {0, -1}) {
        TrapHart hart = new TrapHart(0);
        hart.write(Harts.DELEGATED_INTERRUPTS, -1);
        hart.write(other, ~value);
        int before = hart.read(other);
        hart.write(written, written == Harts.DELEGATED_INTERRUPTS ? -1 : value);
        Check.is(other + " after write of " + written, hart.read(other), before);
      }
    }
  }

  private static void bothKeep(int machines, int supervisors, int kept) {
    checkKept(machines, kept);
    checkKept(supervisors, kept);
  }

  private static void testNumbers() {
    String list = "REGISTERS (by number)";
    Check.test(list, "beside the machine's", () -> checkNone(767, 769, 774, 775));
    Check.test(list, "beside RETURN, CAUSE, PENDING", () -> checkNone(832, 835, 837, 838));
    Check.test(list, "beside the supervisor's", () -> checkNone(255, 257, 262));
    Check.test(list, "beside the supervisor's others", () -> checkNone(320, 323, 325));
    Check.test(list, "what the machine alone has", () -> checkNone(770 - 512, 771 - 512));
    Check.test(list, "0, below 0, far", () -> checkNone(0, 1, -1, -256, 4096, LEAST, GREATEST));
    Check.test(list, "by more than 16 bits", () -> checkNone(768 + 65536, 256 | LEAST));
    Check.test("All are 0 at first", "new", BoundaryRegistersTest::zeroAtFirst);
  }

  private static void testPrivileges() {
    String machine = "A register from 768 on needs privilege 3";
    Check.test(machine, "0", () -> checkTooLow(Harts.MACHINES, 0));
    Check.test(machine, "1", () -> checkTooLow(Harts.MACHINES, 1));
    Check.test(machine, "3", () -> checkHighEnough(Harts.MACHINES, 3));
    String others = "the others 1 or 3";
    Check.test(others, "0", () -> checkTooLow(Harts.SUPERVISORS, 0));
    Check.test(others, "1", () -> checkHighEnough(Harts.SUPERVISORS, 1));
    Check.test(others, "3", () -> checkHighEnough(Harts.SUPERVISORS, 3));
  }

  private static void testPromises() {
    String none = "NoSuchElementException if there is none";
    Class<? extends RuntimeException> isNone = NoSuchElementException.class;
    Check.test(none, "read", () -> checkRead(769, 3, isNone));
    Check.test(none, "write", () -> checkWrite(769, 3, isNone));
    String with = "Writes the register with that number";
    Check.test(with, "no other", BoundaryRegistersTest::othersStay);
    String low = "IllegalStateException if the privilege is too low for it";
    Class<? extends RuntimeException> isLow = IllegalStateException.class;
    Check.test(low, "read, machine's", () -> checkRead(Harts.STATUS, 1, isLow));
    Check.test(low, "read, supervisor's", () -> checkRead(Harts.S_STATUS, 0, isLow));
    String same = "Throws as read() does";
    Check.test(same, "write, machine's", () -> checkWrite(Harts.PENDING, 1, isLow));
    Check.test(same, "write, supervisor's", () -> checkWrite(Harts.S_PENDING, 0, isLow));
    String first = "What a call says first is tested first";
    Check.test(first, "none before too low, read", () -> checkRead(769, 0, isNone));
    Check.test(first, "none before too low, write", () -> checkWrite(769, 0, isNone));
  }

  private static void testStatus() {
    String bits = "STATUS has the bits 1 (S) and 3 (M), 5 (old S) and 7 (old M), 8";
    Check.test(bits, "no others", BoundaryRegistersTest::statusHasItsBitsAlone);
    String two = "but bits 11 and 12 stay if they are written as 2";
    Check.test(two, "they stay", BoundaryRegistersTest::twoLeavesThePrivilegeBefore);
    Check.test(two, "the others don't", BoundaryRegistersTest::twoLetsTheOtherBitsChange);
    Check.test(two, "0, 1 and 3", BoundaryRegistersTest::otherPrivilegesAreWritten);
    Check.test(two, "never left for", BoundaryRegistersTest::privilegeTwoNeverIs);
    String three = "The supervisor's shows and changes the bits 1, 5 and 8 of the same alone";
    Check.test(three, "shows", BoundaryRegistersTest::supervisorsStatusShowsThree);
    Check.test(three, "changes", BoundaryRegistersTest::supervisorsStatusChangesThree);
    Check.test(three, "2 there", BoundaryRegistersTest::supervisorsStatusIgnoresTwo);
  }

  private static void testPending() {
    String writing = "Writing it changes what was written of 1, 5 and 9";
    Check.test(writing, "each bit", () -> checkKept(Harts.PENDING, 0x222));
    Check.test(writing, "of the devices", BoundaryRegistersTest::devicesBitsAreNotWritten);
    String written = "1 and 5 as they were written";
    Check.test(written, "whatever the devices do", BoundaryRegistersTest::oneAndFiveAreAsWritten);
    Check.test(written, "after the trap", BoundaryRegistersTest::takenStaysWritten);
    String nine = "9 as it was written, or 1 if context 1 is calling";
    Check.test(nine, "either, both, none", BoundaryRegistersTest::nineIsWrittenOrCalling);
    Check.test(nine, "apart", BoundaryRegistersTest::callingNineIsNotTakenAsWritten);
    String eleven = "11 whether context 0 is calling";
    Check.test(eleven, "not context 1", BoundaryRegistersTest::elevenIsOfContextZeroAlone);
  }

  private static void testSupervisorsInterrupts() {
    String show = "The supervisor's ENABLED and PENDING show the bits that are delegated";
    Check.test(show, "ENABLED", BoundaryRegistersTest::supervisorSeesTheDelegatedOfEnabled);
    Check.test(show, "PENDING", BoundaryRegistersTest::supervisorSeesTheDelegatedOfPending);
    Check.test(show, "no more", BoundaryRegistersTest::notDelegatedIsHiddenNotLost);
    String change = "and writing changes of these alone: all of them in ENABLED, bit 1 in PENDING";
    Check.test(change, "ENABLED", BoundaryRegistersTest::supervisorChangesTheDelegatedOfEnabled);
    Check.test(change, "PENDING", BoundaryRegistersTest::supervisorChangesBitOneOfPending);
  }

  private static void testKept() {
    Check.test("ENABLED keeps these six bits", "each", () -> checkKept(Harts.ENABLED, 0xAAA));
    String delegated = "DELEGATED interrupts keep bits 1, 5 and 9";
    Check.test(delegated, "each", () -> checkKept(Harts.DELEGATED_INTERRUPTS, 0x222));
    String exceptions = "delegated exceptions bits 0 to 9, 12, 13 and 15";
    Check.test(exceptions, "each", () -> checkKept(Harts.DELEGATED_EXCEPTIONS, 0xB3FF));
    String vector = "VECTOR keeps all bits but bit 1";
    Check.test(vector, "each", () -> bothKeep(Harts.VECTOR, Harts.S_VECTOR, ~2));
    String comeBack = "RETURN all but 0 and 1";
    Check.test(comeBack, "each", () -> bothKeep(Harts.RETURN, Harts.S_RETURN, ~3));
    Check.test("CAUSE all", "each", () -> bothKeep(Harts.CAUSE, Harts.S_CAUSE, -1));
  }

  public static void main(String[] args) {
    testNumbers();
    testPrivileges();
    testPromises();
    testStatus();
    testPending();
    testSupervisorsInterrupts();
    testKept();
    Check.end("BoundaryRegistersTest");
  }
}
