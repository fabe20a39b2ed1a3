/** Promise 10: traps by exceptions. */
public final class Promise10RaiseTest {
  private static final int[] CAUSES = {0, 1, 2, 3, 4, 5, 6, 7, 8, 9, 11, 12, 13, 15};

  private static TrapHart with(int delegated, int privilege) {
    TrapHart hart = new TrapHart(0);
    hart.write(Harts.DELEGATED_EXCEPTIONS, delegated);
    hart.write(Harts.DELEGATED_INTERRUPTS, -1);
    hart.write(Harts.VECTOR, 0x4001);
    hart.write(Harts.S_VECTOR, 0x8001);
    hart.write(Harts.STATUS, 0xA);
    return Harts.go(hart, privilege, 0x100);
  }

  private static void testToTheMachine() {
    for (int cause : CAUSES) {
      for (int privilege : new int[] {0, 1, 3}) {
        // In the machine's privilege delegation does not count.
        TrapHart hart = with(privilege == 3 ? -1 : ~(1 << cause), privilege);
        String what = "raise(" + cause + ") in privilege " + privilege;
        Check.is(what, hart.raise(cause), 3);
        Check.is(what + ": privilege", hart.privilege(), 3);
        Check.is(what + ": pc", hart.pc(), 0x4000);
        Check.is(what + ": CAUSE", hart.read(Harts.CAUSE), cause);
        Check.is(what + ": RETURN", hart.read(Harts.RETURN), 0x100);
        Check.is(what + ": STATUS", hart.read(Harts.STATUS), 0x82 | privilege << 11);
        Check.is(what + ": S_CAUSE", hart.read(Harts.S_CAUSE), 0);
      }
    }
  }

  private static void testToTheSupervisor() {
    for (int cause : CAUSES) {
      for (int privilege : new int[] {0, 1}) {
        TrapHart hart = with(cause == 11 ? -1 : 1 << cause, privilege);
        String what = "raise(" + cause + ") delegated in privilege " + privilege;
        if (cause == 11) {
          Check.is("11 can't be delegated", hart.raise(11), 3);
          continue;
        }
        Check.is(what, hart.raise(cause), 1);
        Check.is(what + ": privilege", hart.privilege(), 1);
        Check.is(what + ": pc", hart.pc(), 0x8000);
        Check.is(what + ": CAUSE", hart.read(Harts.S_CAUSE), cause);
        Check.is(what + ": RETURN", hart.read(Harts.S_RETURN), 0x100);
        Check.is(what + ": STATUS", hart.read(Harts.S_STATUS), 0x20 | privilege << 8);
      }
    }
  }

  private static void testTrapInTrap() {
    TrapHart hart = with(0, 0);
    hart.raise(3);
    Check.is("again", hart.raise(2), 3);
    Check.is("RETURN is the handler", hart.read(Harts.RETURN), 0x4000);
    Check.is("old M is 0 now", hart.read(Harts.STATUS), 0x1802);
    TrapHart supervisor = with(-1, 0);
    supervisor.raise(3);
    Check.is("again", supervisor.raise(2), 1);
    Check.is("RETURN is the handler", supervisor.read(Harts.S_RETURN), 0x8000);
    Check.is("old S is 0 now", supervisor.read(Harts.S_STATUS), 0x100);
  }

  private static void testRefused() {
    int[] none = {-1, 10, 14, 16, 17, 31, 32, 33, 43, -32, -31, 0x80000003, Integer.MAX_VALUE};
    for (int cause : none) {
      for (int privilege : new int[] {0, 1, 3}) {
        Check.refuses(
            "raise(" + cause + ")",
            IllegalArgumentException.class,
            () -> Harts.busy(privilege),
            hart -> hart.raise(cause));
      }
    }
  }

  public static void main(String[] args) {
    testToTheMachine();
    testToTheSupervisor();
    testTrapInTrap();
    testRefused();
    Check.end("Promise10RaiseTest");
  }
}
