/** Promise 4: load, with the claims that reading words makes. */
public final class Promise04LoadTest {
  private static void testWordsKeepTheirOwn() {
    TrapHart hart = new TrapHart(0);
    for (int s = 1; s <= 15; s++) {
      hart.store(4 * s, s);
    }
    hart.store(128, 0x1234);
    hart.store(132, 5);
    hart.store(144, 0x5678);
    hart.store(148, 6);
    hart.store(192, 1);
    hart.store(196, 0x11111111);
    hart.store(200, 0x22222222);
    hart.store(204, 0x33333333);
    hart.store(208, 0x84444444);
    for (int s = 1; s <= 15; s++) {
      Check.is("priority " + s, hart.load(4 * s), s & 7);
    }
    Check.is("enabled of 0", hart.load(128), 0x1234);
    Check.is("threshold of 0", hart.load(132), 5);
    Check.is("enabled of 1", hart.load(144), 0x5678);
    Check.is("threshold of 1", hart.load(148), 6);
    Check.is("soft", hart.load(192), 1);
    Check.is("lower COMPARE", hart.load(196), 0x11111111);
    Check.is("higher COMPARE", hart.load(200), 0x22222222);
    Check.is("lower TIME", hart.load(204), 0x33333333);
    Check.is("higher TIME", hart.load(208), 0x84444444);
    Check.is("pending", hart.load(64), 0);
    Check.is("the PC stays", hart.pc(), 0);
  }

  private static void testClaimTakesTheBest() {
    TrapHart hart = new TrapHart(0);
    hart.store(4 * 3, 2);
    hart.store(4 * 5, 6);
    hart.store(4 * 9, 6);
    hart.store(4 * 11, 7);
    hart.store(4 * 13, 1);
    hart.store(128, 1 << 3 | 1 << 5 | 1 << 9 | 1 << 14);
    hart.store(132, 7);
    hart.lines(-1);
    Check.is("greatest priority, least number, whatever the threshold", hart.load(136), 5);
    Check.is("no more pending", hart.load(64), 0xFFFE & ~(1 << 5));
    Check.is("served by 0", hart.source(5), 1);
    Check.is("the next number", hart.load(136), 9);
    Check.is("less priority", hart.load(136), 3);
    Check.is("priority 0 is never claimed", hart.load(136), 0);
    Check.is("an empty set claims nothing", hart.load(152), 0);
    hart.store(144, -1);
    Check.is("the other context", hart.load(152), 11);
    Check.is("served by 1", hart.source(11), 2);
    Check.is("the other context again", hart.load(152), 13);
    Check.is("the other context, none left", hart.load(152), 0);
    int claimed = 1 << 3 | 1 << 5 | 1 << 9 | 1 << 11 | 1 << 13;
    Check.is("all but the claimed pend", hart.load(64), 0xFFFE & ~claimed);
  }

  private static void testEveryAddress() {
    for (int address = -8; address <= 260; address++) {
      int at = address;
      if ((address & 3) != 0) {
        Check.refuses(
            "load(" + at + ")",
            IllegalArgumentException.class,
            () -> Harts.busy(1),
            hart -> hart.load(at));
      } else if (!isThere(address)) {
        Check.refuses(
            "load(" + at + ")",
            IndexOutOfBoundsException.class,
            () -> Harts.busy(0),
            hart -> hart.load(at));
      } else {
        Check.is("load(" + at + ")", new TrapHart(0).load(at), at == 196 || at == 200 ? -1 : 0);
      }
    }
  }

  private static boolean isThere(int address) {
    for (int there : new int[] {
      4, 8, 12, 16, 20, 24, 28, 32, 36, 40, 44, 48, 52, 56, 60,
      64, 128, 132, 136, 144, 148, 152, 192, 196, 200, 204, 208
    }) {
      if (there == address) {
        return true;
      }
    }
    return false;
  }

  private static void testFarAddresses() {
    for (int at : new int[] {Integer.MIN_VALUE, 0x40000004, 0x10000040, -64, 0x7FFFFFFC}) {
      Check.refuses(
          "load(" + at + ")",
          IndexOutOfBoundsException.class,
          () -> Harts.busy(3),
          hart -> hart.load(at));
    }
    for (int at : new int[] {Integer.MAX_VALUE, -1, -2, -3, 0x80000001}) {
      Check.refuses(
          "load(" + at + ")",
          IllegalArgumentException.class,
          () -> Harts.busy(3),
          hart -> hart.load(at));
    }
  }

  private static void testPrivilegeDoesNotMatter() {
    TrapHart hart = Harts.at(0);
    hart.store(4, 1);
    hart.store(128, 2);
    hart.lines(2);
    Check.is("claim by a user", hart.load(136), 1);
  }

  public static void main(String[] args) {
    testWordsKeepTheirOwn();
    testClaimTakesTheBest();
    testEveryAddress();
    testFarAddresses();
    testPrivilegeDoesNotMatter();
    Check.end("Promise04LoadTest");
  }
}
