/** Promise 11: coming back from traps. */
public final class Promise11LeaveTest {
  private static void testMachines() {
    for (int privilege : new int[] {0, 1, 3}) {
      for (int old = 0; old <= 1; old++) {
        for (int m = 0; m <= 1; m++) {
          TrapHart hart = new TrapHart(0);
          hart.write(Harts.RETURN, 0x8000_0124);
          hart.write(Harts.S_RETURN, 0x300);
          hart.write(Harts.CAUSE, 5);
          hart.write(Harts.STATUS, 0x122 | m << 3 | old << 7 | privilege << 11);
          Check.is("leave(true)", hart.leave(true), privilege);
          Check.is("privilege", hart.privilege(), privilege);
          Check.is("pc", hart.pc(), 0x8000_0124);
          if (privilege == 3) {
            Check.is("STATUS", hart.read(Harts.STATUS), 0x1A2 | old << 3);
            Check.is("CAUSE stays", hart.read(Harts.CAUSE), 5);
            Check.is("RETURN stays", hart.read(Harts.RETURN), 0x8000_0124);
          } else {
            hart.raise(11);
            int due = 0x122 | old << 7 | privilege << 11;
            Check.is("STATUS, by the next trap", hart.read(Harts.STATUS), due);
          }
        }
      }
    }
  }

  private static void testOldMBecomesOne() {
    TrapHart hart = new TrapHart(0);
    hart.write(Harts.STATUS, 3 << 11);
    hart.leave(true);
    Check.is("M 0, old M 1, bits 11 and 12 are 0", hart.read(Harts.STATUS), 0x80);
    Check.is("now to the user", hart.leave(true), 0);
  }

  private static void testSupervisors() {
    for (int from : new int[] {1, 3}) {
      for (int before = 0; before <= 1; before++) {
        for (int old = 0; old <= 1; old++) {
          for (int s = 0; s <= 1; s++) {
            TrapHart hart = new TrapHart(0);
            hart.write(Harts.S_RETURN, 0x7FFF_FFFC);
            hart.write(Harts.STATUS, s << 1 | old << 5 | before << 8 | 0x8);
            Harts.go(hart, from, 0x500);
            Check.is("leave(false)", hart.leave(false), before);
            Check.is("privilege", hart.privilege(), before);
            Check.is("pc", hart.pc(), 0x7FFF_FFFC);
            hart.raise(11);
            int due = old << 1 | 0x20 | 0x80 | before << 11;
            Check.is("STATUS, by the next trap", hart.read(Harts.STATUS), due);
          }
        }
      }
    }
  }

  private static void testThereAndBack() {
    TrapHart hart = new TrapHart(0);
    hart.write(Harts.DELEGATED_EXCEPTIONS, 1 << 8);
    hart.write(Harts.VECTOR, 0x1000);
    hart.write(Harts.S_VECTOR, 0x2000);
    hart.write(Harts.STATUS, 0xA);
    Harts.go(hart, 0, 0x60);
    Check.is("to the supervisor", hart.raise(8), 1);
    Check.is("to the machine", hart.raise(9), 3);
    Check.is("back to the supervisor", hart.leave(true), 1);
    Check.is("pc", hart.pc(), 0x2000);
    Check.is("back to the user", hart.leave(false), 0);
    Check.is("pc", hart.pc(), 0x60);
    hart.raise(9);
    Check.is("STATUS", hart.read(Harts.STATUS), 0xA2);
  }

  private static void testRefused() {
    for (int privilege : new int[] {0, 1}) {
      Check.refuses(
          "leave(true) in privilege " + privilege,
          IllegalStateException.class,
          () -> Harts.busy(privilege),
          hart -> hart.leave(true));
    }
    Check.refuses(
        "leave(false) in privilege 0",
        IllegalStateException.class,
        () -> Harts.busy(0),
        hart -> hart.leave(false));
  }

  public static void main(String[] args) {
    testMachines();
    testOldMBecomesOne();
    testSupervisors();
    testThereAndBack();
    testRefused();
    Check.end("Promise11LeaveTest");
  }
}
