/** Harts that several tests begin with. */
final class Harts {
  static final int STATUS = 768;
  static final int DELEGATED_EXCEPTIONS = 770;
  static final int DELEGATED_INTERRUPTS = 771;
  static final int ENABLED = 772;
  static final int VECTOR = 773;
  static final int RETURN = 833;
  static final int CAUSE = 834;
  static final int PENDING = 836;
  static final int S_STATUS = 256;
  static final int S_ENABLED = 260;
  static final int S_VECTOR = 261;
  static final int S_RETURN = 321;
  static final int S_CAUSE = 322;
  static final int S_PENDING = 324;

  static final int[] MACHINES = {768, 770, 771, 772, 773, 833, 834, 836};
  static final int[] SUPERVISORS = {256, 260, 261, 321, 322, 324};

  private Harts() {}

  /** Leaves the machine for a privilege, with PC and RETURN at an address and M as it was. */
  static TrapHart go(TrapHart hart, int privilege, int address) {
    int status = hart.read(STATUS);
    int old = (status & 8) << 4;
    hart.write(STATUS, status & ~0x1880 | old | privilege << 11);
    hart.write(RETURN, address);
    hart.leave(true);
    return hart;
  }

  static TrapHart at(int privilege) {
    return go(new TrapHart(0), privilege, 0x40);
  }

  /** Every kind of state is something else than at first; the privilege is the one given. */
  static TrapHart busy(int privilege) {
    TrapHart hart = new TrapHart(0x00F0);
    for (int s = 1; s <= 15; s++) {
      hart.store(4 * s, s & 7);
    }
    hart.store(128, 0x5554);
    hart.store(144, 0x3336);
    hart.store(132, 2);
    hart.store(148, 3);
    hart.store(192, 1);
    hart.store(196, 1000);
    hart.store(200, 0);
    hart.ticks(999);
    hart.lines(0x0FFE);
    hart.lines(0x0F0E);
    hart.lines(0x0FFE);
    hart.load(136);
    hart.load(152);
    hart.write(DELEGATED_EXCEPTIONS, 0x10F);
    hart.write(DELEGATED_INTERRUPTS, 0x202);
    hart.write(ENABLED, 0x222);
    hart.write(VECTOR, 0x2001);
    hart.write(S_VECTOR, 0x3001);
    hart.write(S_RETURN, 0x500);
    hart.write(S_CAUSE, 77);
    hart.write(CAUSE, 78);
    hart.write(PENDING, 0x20);
    hart.write(STATUS, 0x12A);
    return go(hart, privilege, 0x600);
  }
}
