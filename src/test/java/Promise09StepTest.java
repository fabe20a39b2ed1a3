/** Promise 9: step, and the traps by interrupts that it makes. */
public final class Promise09StepTest {
  private static void testGoesOn() {
    TrapHart hart = Harts.go(new TrapHart(0), 1, -8);
    Check.is("none", hart.step(), -1);
    Check.is("pc", hart.pc(), -4);
    Check.is("none", hart.step(), -1);
    Check.is("the PC wraps", hart.pc(), 0);
    hart.step();
    Check.is("pc", hart.pc(), 4);
    Check.is("privilege", hart.privilege(), 1);
  }

  /** A hart with one interrupt pending and enabled, both vectors set, and S and M given. */
  private static TrapHart with(int interrupt, boolean delegated, int vectorBit, int status) {
    TrapHart hart = new TrapHart(0);
    hart.write(Harts.DELEGATED_INTERRUPTS, delegated ? -1 : 0);
    hart.write(Harts.ENABLED, 1 << interrupt);
    hart.write(Harts.PENDING, 0x222);
    hart.store(192, 1);
    hart.store(200, 0);
    hart.store(196, 0);
    hart.store(4, 1);
    hart.store(128, 2);
    hart.lines(2);
    hart.write(Harts.VECTOR, 0x4000 | vectorBit);
    hart.write(Harts.S_VECTOR, 0x8000 | vectorBit);
    hart.write(Harts.STATUS, status);
    return hart;
  }

  private static void testToTheMachine() {
    for (int interrupt : new int[] {1, 3, 5, 7, 9, 11}) {
      for (int privilege : new int[] {0, 1, 3}) {
        for (int bit = 0; bit <= 1; bit++) {
          TrapHart hart = Harts.go(with(interrupt, false, bit, 0x12A), privilege, 0x100);
          String what = interrupt + " in privilege " + privilege + ", vector bit " + bit;
          Check.is(what, hart.step(), interrupt);
          Check.is(what + ": privilege", hart.privilege(), 3);
          Check.is(what + ": pc", hart.pc(), 0x4000 + 4 * interrupt * bit);
          Check.is(what + ": CAUSE", hart.read(Harts.CAUSE), 0x80000000 | interrupt);
          Check.is(what + ": RETURN", hart.read(Harts.RETURN), 0x100);
          Check.is(what + ": STATUS", hart.read(Harts.STATUS), 0x1A2 | privilege << 11);
          Check.is(what + ": S_CAUSE", hart.read(Harts.S_CAUSE), 0);
          Check.is(what + ": S_RETURN", hart.read(Harts.S_RETURN), 0);
          Check.is(what + ": M is 0, so the next does not trap", hart.step(), -1);
        }
      }
    }
  }

  private static void testToTheSupervisor() {
    for (int interrupt : new int[] {1, 5, 9}) {
      for (int privilege : new int[] {0, 1}) {
        for (int bit = 0; bit <= 1; bit++) {
          TrapHart hart = Harts.go(with(interrupt, true, bit, 0xA), privilege, 0x100);
          String what = interrupt + " delegated in privilege " + privilege + ", bit " + bit;
          Check.is(what, hart.step(), interrupt);
          Check.is(what + ": privilege", hart.privilege(), 1);
          Check.is(what + ": pc", hart.pc(), 0x8000 + 4 * interrupt * bit);
          Check.is(what + ": CAUSE", hart.read(Harts.S_CAUSE), 0x80000000 | interrupt);
          Check.is(what + ": RETURN", hart.read(Harts.S_RETURN), 0x100);
          Check.is(what + ": STATUS", hart.read(Harts.S_STATUS), 0x20 | privilege << 8);
          Check.is(what + ": S is 0, so the next does not trap", hart.step(), -1);
          hart.raise(11);
          Check.is(what + ": M stayed", hart.read(Harts.STATUS) & 0x88, 0x80);
        }
      }
    }
  }

  private static void testOldBitsOfZero() {
    TrapHart user = Harts.go(with(1, true, 0, 0x120), 0, 0x100);
    user.step();
    Check.is("S was 0, so old S is", user.read(Harts.S_STATUS), 0);
    TrapHart machine = Harts.go(with(3, false, 0, 0), 0, 0x100);
    machine.step();
    Check.is("M was 0, so old M is", machine.read(Harts.STATUS), 0);
  }

  private static void testDelegatedWaitsInMachine() {
    TrapHart hart = with(9, true, 1, 0xA);
    Check.is("not due in the machine", hart.step(), -1);
    Check.is("pc", hart.pc(), 4);
  }

  private static void testVectorWraps() {
    TrapHart hart = with(11, false, 0, 8);
    hart.write(Harts.VECTOR, -3);
    hart.step();
    Check.is("the PC wraps", hart.pc(), 40);
  }

  public static void main(String[] args) {
    testGoesOn();
    testToTheMachine();
    testToTheSupervisor();
    testOldBitsOfZero();
    testDelegatedWaitsInMachine();
    testVectorWraps();
    Check.end("Promise09StepTest");
  }
}
