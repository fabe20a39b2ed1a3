/** Promise 13: the PC, by each way that changes it; asking changes nothing. */
public final class Promise13PcTest {
  private static void testWays() {
    TrapHart hart = new TrapHart(0);
    Check.is("at first", hart.pc(), 0);
    hart.step();
    Check.is("a step", hart.pc(), 4);
    hart.access(4, false, 0);
    Check.is("a read", hart.pc(), 8);
    hart.access(4, true, 0);
    Check.is("a write", hart.pc(), 12);
    hart.load(4);
    hart.store(4, 1);
    hart.read(Harts.STATUS);
    hart.write(Harts.VECTOR, 0x8000_0101);
    hart.lines(1);
    hart.ticks(4);
    Check.is("none of the others", hart.pc(), 12);
    hart.raise(1);
    Check.is("a trap", hart.pc(), 0x8000_0100);
    hart.leave(true);
    Check.is("back", hart.pc(), 12);
  }

  private static void testWraps() {
    for (int way = 0; way < 3; way++) {
      TrapHart hart = Harts.go(new TrapHart(0), 3, -1);
      Check.is("RETURN without bits 0 and 1", hart.pc(), -4);
      if (way == 0) {
        hart.step();
      } else {
        hart.access(4, way == 1, 0);
      }
      Check.is("wraps", hart.pc(), 0);
    }
    TrapHart sign = Harts.go(new TrapHart(0), 3, 0x7FFF_FFFC);
    sign.step();
    Check.is("over the sign", sign.pc(), Integer.MIN_VALUE);
  }

  private static void testAsking() {
    TrapHart asked = Harts.busy(1);
    asked.pc();
    asked.pc();
    Check.same("asking", Check.drain(asked), Check.drain(Harts.busy(1)));
  }

  public static void main(String[] args) {
    testWays();
    testWraps();
    testAsking();
    Check.end("Promise13PcTest");
  }
}
