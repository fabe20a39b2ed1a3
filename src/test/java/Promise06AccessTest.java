/** Promise 6: the hart's own reading and writing, with its traps. */
public final class Promise06AccessTest {
  private static void testFine() {
    TrapHart hart = new TrapHart(0);
    Check.is("COMPARE without sign", hart.access(196, false, 7), 0xFFFFFFFFL);
    Check.is("pc", hart.pc(), 4);
    Check.is("written", hart.access(196, true, -2), 0);
    Check.is("pc", hart.pc(), 8);
    Check.is("read again", hart.access(196, false, 0), 0xFFFFFFFEL);
    Check.is("the set is read", hart.access(64, false, 0), 0);
    Check.is("pc", hart.pc(), 16);
    Check.is("cause stays", hart.read(834), 0);
    Check.is("privilege stays", hart.privilege(), 3);
  }

  private static void testClaimAndComplete() {
    TrapHart hart = Harts.at(0);
    hart.store(4 * 8, 1);
    hart.store(144, 1 << 8);
    hart.lines(1 << 8);
    Check.is("claim", hart.access(152, false, 8), 8);
    Check.is("served", hart.source(8), 2);
    Check.is("complete", hart.access(152, true, 8), 0);
    Check.is("forwarded", hart.load(64), 1 << 8);
    Check.is("user still", hart.privilege(), 0);
    Check.is("pc", hart.pc(), 0x48);
  }

  private static void checkFault(int address, boolean write, int cause) {
    TrapHart hart = new TrapHart(0);
    hart.write(Harts.VECTOR, 0x7001);
    hart.step();
    hart.step();
    String call = "access(" + address + ", " + write + ", 3)";
    Check.is(call, hart.access(address, write, 3), -1 - cause);
    Check.is(call + " CAUSE", hart.read(Harts.CAUSE), cause);
    Check.is(call + " RETURN", hart.read(Harts.RETURN), 8);
    Check.is(call + " PC", hart.pc(), 0x7000);
    Check.is(call + " STATUS", hart.read(Harts.STATUS), 0x1800);
  }

  private static void testFaults() {
    for (int address : new int[] {1, 2, 3, 66, 209, -1}) {
      checkFault(address, false, 4);
      checkFault(address, true, 6);
    }
    for (int address : new int[] {0, 68, 140, 156, 160, 188, 212, -4, 0x40000004}) {
      checkFault(address, false, 5);
      checkFault(address, true, 7);
    }
    checkFault(64, true, 7);
  }

  private static void testDelegatedFault() {
    int[] causes = {4, 5, 6, 7};
    int[] addresses = {1, 0, 1, 64};
    for (int i = 0; i < 4; i++) {
      boolean write = causes[i] >= 6;
      TrapHart hart = new TrapHart(0);
      hart.write(Harts.DELEGATED_EXCEPTIONS, 1 << causes[i]);
      hart.write(Harts.S_VECTOR, 0x9001);
      Harts.go(hart, 0, 0x80);
      Check.is("delegated", hart.access(addresses[i], write, 0), -1 - causes[i]);
      Check.is("to the supervisor", hart.privilege(), 1);
      Check.is("S_CAUSE", hart.read(Harts.S_CAUSE), causes[i]);
      Check.is("S_RETURN", hart.read(Harts.S_RETURN), 0x80);
      Check.is("pc", hart.pc(), 0x9000);
    }
  }

  private static void testFaultLeavesTheWords() {
    TrapHart hart = new TrapHart(0);
    hart.lines(6);
    hart.access(64, true, -1);
    Check.is("the fixed word", hart.load(64), 6);
  }

  public static void main(String[] args) {
    testFine();
    testClaimAndComplete();
    testFaults();
    testDelegatedFault();
    testFaultLeavesTheWords();
    Check.end("Promise06AccessTest");
  }
}
