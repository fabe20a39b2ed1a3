import java.util.NoSuchElementException;

/**
 * A hart with three privileges and the devices that interrupt it: sources behind gateways with
 * priorities, two contexts that claim and complete, a timer, and traps that are delegated.
 */
public final class TrapHart {
  private static final int USER = 0;
  private static final int SUPERVISOR = 1;
  private static final int MACHINE = 3;

  private static final int NONE_DUE = -1;
  private static final int INSTRUCTION_BYTES = 4;
  private static final long WITHOUT_SIGN = 0xFFFFFFFFL;

  /** Causes 0 .. 9, 11, 12, 13 and 15, a bit each. */
  private static final int EXCEPTIONS = 0xBBFF;
  private static final int LAST_EXCEPTION = 15;

  private static final int READ_WRONG = 4;
  private static final int READ_FAULT = 5;
  private static final int WRITE_WRONG = 6;
  private static final int WRITE_FAULT = 7;

  private final Devices devices;
  private final Registers registers;
  private int mode;
  private int counter;

  public TrapHart(int edges) {
    devices = new Devices(edges);
    registers = new Registers(devices);
    mode = MACHINE;
    counter = 0;
  }

  public int lines(int set) {
    devices.sources.drive(set);
    return devices.sources.pending;
  }

  public void ticks(int n) throws IllegalArgumentException {
    if (n < 0) {
      throw new IllegalArgumentException("ticks below 0");
    }
    devices.timer.time += n;
  }

  public int load(int address) throws IllegalArgumentException, IndexOutOfBoundsException {
    refuseWrongOrAbsent(Devices.faultAt(address, false));
    return devices.readWord(address);
  }

  public void store(int address, int value)
      throws IllegalArgumentException, IndexOutOfBoundsException, UnsupportedOperationException {
    int fault = Devices.faultAt(address, true);
    refuseWrongOrAbsent(fault);
    if (fault == Devices.FIXED) {
      throw new UnsupportedOperationException("the word is fixed");
    }
    devices.writeWord(address, value);
  }

  public long access(int address, boolean write, int value) {
    int fault = Devices.faultAt(address, write);
    if (fault != Devices.FINE) {
      int cause = causeOf(fault, write);
      enterTrap(cause, false);
      return -1L - cause;
    }
    long word = 0;
    if (write) {
      devices.writeWord(address, value);
    } else {
      word = devices.readWord(address) & WITHOUT_SIGN;
    }
    counter += INSTRUCTION_BYTES;
    return word;
  }

  public int read(int register) throws NoSuchElementException, IllegalStateException {
    refuseRegister(register);
    return registers.valueOf(register);
  }

  public void write(int register, int value) throws NoSuchElementException, IllegalStateException {
    refuseRegister(register);
    registers.change(register, value);
  }

  public int step() {
    int interrupt = interruptToTake();
    if (interrupt == NONE_DUE) {
      counter += INSTRUCTION_BYTES;
    } else {
      enterTrap(interrupt, true);
    }
    return interrupt;
  }

  public int raise(int cause) throws IllegalArgumentException {
    if (cause < 0 || cause > LAST_EXCEPTION || !hasBit(EXCEPTIONS, cause)) {
      throw new IllegalArgumentException("no such exception");
    }
    enterTrap(cause, false);
    return mode;
  }

  public int leave(boolean machine) throws IllegalStateException {
    if (machine ? mode != MACHINE : mode == USER) {
      throw new IllegalStateException("the privilege is too low");
    }
    if (machine) {
      mode = registers.status.leaveMachine();
      counter = registers.machine.comeBack;
    } else {
      mode = registers.status.leaveSupervisor();
      counter = registers.supervisor.comeBack;
    }
    return mode;
  }

  public int privilege() {
    return mode;
  }

  public int pc() {
    return counter;
  }

  public int due() {
    return interruptToTake();
  }

  public int source(int s) throws IndexOutOfBoundsException {
    if (s < Sources.FIRST || s > Sources.LAST) {
      throw new IndexOutOfBoundsException("no such source");
    }
    return 4 * devices.sources.waiting[s] + devices.sources.server[s];
  }

  private static void refuseWrongOrAbsent(int fault) {
    if (fault == Devices.WRONG) {
      throw new IllegalArgumentException("the address is not divisible by 4");
    }
    if (fault == Devices.ABSENT) {
      throw new IndexOutOfBoundsException("no word at the address");
    }
  }

  private void refuseRegister(int register) {
    if (!Registers.isThere(register)) {
      throw new NoSuchElementException("no such register");
    }
    if (mode == USER || mode != MACHINE && Registers.isOfMachine(register)) {
      throw new IllegalStateException("the privilege is too low");
    }
  }

  private static int causeOf(int fault, boolean write) {
    if (fault == Devices.WRONG) {
      return write ? WRITE_WRONG : READ_WRONG;
    }
    return write ? WRITE_FAULT : READ_FAULT;
  }

  private int interruptToTake() {
    int ready = registers.pendingInterrupts() & registers.enabled;
    if (mode != MACHINE || registers.status.machineOpen()) {
      int interrupt = Registers.firstInterrupt(ready & ~registers.delegatedInterrupts);
      if (interrupt != NONE_DUE) {
        return interrupt;
      }
    }
    if (mode == USER || mode == SUPERVISOR && registers.status.supervisorOpen()) {
      return Registers.firstInterrupt(ready & registers.delegatedInterrupts);
    }
    return NONE_DUE;
  }

  private void enterTrap(int cause, boolean interrupt) {
    Handler handler;
    if (mode != MACHINE && registers.isDelegated(cause, interrupt)) {
      registers.status.enterSupervisor(mode);
      handler = registers.supervisor;
      mode = SUPERVISOR;
    } else {
      registers.status.enterMachine(mode);
      handler = registers.machine;
      mode = MACHINE;
    }
    counter = handler.take(counter, cause, interrupt);
  }

  private static boolean hasBit(int set, int bit) {
    return (set >>> bit & 1) != 0;
  }

  /** The old number with the bits of the mask taken from the new one. */
  private static int replaceBits(int old, int value, int mask) {
    return old & ~mask | value & mask;
  }

  /** The sources and their gateways; element 0 of each row stands for no source. */
  private static final class Sources {
    private static final int FIRST = 1;
    private static final int LAST = 15;
    private static final int ALL = 0xFFFE;
    private static final int MOST_WAITING = 15;
    private static final int NOBODY = 0;

    private final int edges;
    private final int[] priority = new int[LAST + 1];
    private final int[] waiting = new int[LAST + 1];
    /** 1 more than the context that serves the source, or NOBODY. */
    private final int[] server = new int[LAST + 1];
    private int high;
    private int pending;

    private Sources(int edges) {
      this.edges = edges & ALL;
    }

    private void drive(int set) {
      int risen = set & ~high & edges;
      high = set & ALL;
      for (int s = FIRST; s <= LAST; s++) {
        if (hasBit(risen, s) && waiting[s] < MOST_WAITING) {
          waiting[s]++;
        }
        forward(s);
      }
    }

    private void forward(int s) {
      if (hasBit(pending, s) || server[s] != NOBODY) {
        return;
      }
      if (!hasBit(edges, s)) {
        pending |= high & 1 << s;
      } else if (waiting[s] > 0) {
        waiting[s]--;
        pending |= 1 << s;
      }
    }

    /** The source of greatest priority above the floor among those pending in the set, or 0. */
    private int best(int set, int floor) {
      int found = 0;
      int greatest = floor;
      for (int s = FIRST; s <= LAST; s++) {
        if (hasBit(pending & set, s) && priority[s] > greatest) {
          found = s;
          greatest = priority[s];
        }
      }
      return found;
    }

    private void serve(int s, int by) {
      pending &= ~(1 << s);
      server[s] = by;
    }

    private void release(int s) {
      if (server[s] != NOBODY) {
        server[s] = NOBODY;
        forward(s);
      }
    }
  }

  /** One of the two that claim and complete. */
  private static final class Context {
    private static final int THREE_BITS = 7;

    private final Sources sources;
    private final int server;
    private int enabledSet;
    private int threshold;

    private Context(Sources sources, int number) {
      this.sources = sources;
      server = number + 1;
    }

    private int claim() {
      int found = sources.best(enabledSet, 0);
      if (found != 0) {
        sources.serve(found, server);
      }
      return found;
    }

    private void complete(int number) {
      if (number >= Sources.FIRST && number <= Sources.LAST && hasBit(enabledSet, number)) {
        sources.release(number);
      }
    }

    private boolean isCalling() {
      return sources.best(enabledSet, threshold) != 0;
    }
  }

  private static final class Timer {
    private static final long LOWER = 0xFFFFFFFFL;
    private static final long SIGN = 1L << 63;

    private long time = 0;
    private long compare = -1L;
    private int soft = 0;

    private boolean isReached() {
      // Java compares with sign; turning the sign bits over makes that the order without sign.
      return (time ^ SIGN) >= (compare ^ SIGN);
    }

    private static long withLower(long number, int half) {
      return number & ~LOWER | half & LOWER;
    }

    private static long withHigher(long number, int half) {
      return number & LOWER | (long) half << 32;
    }
  }

  /** What the hart finds at addresses, and what reaches it from there as interrupts. */
  private static final class Devices {
    private static final int FINE = 0;
    private static final int WRONG = 1;
    private static final int ABSENT = 2;
    private static final int FIXED = 3;

    private static final int FIRST_PRIORITY = 4;
    private static final int LAST_PRIORITY = 60;
    private static final int PENDING_SET = 64;
    private static final int MACHINE_ENABLED = 128;
    private static final int MACHINE_THRESHOLD = 132;
    private static final int MACHINE_CLAIM = 136;
    private static final int SUPERVISOR_ENABLED = 144;
    private static final int SUPERVISOR_THRESHOLD = 148;
    private static final int SUPERVISOR_CLAIM = 152;
    private static final int SOFT = 192;
    private static final int COMPARE_LOWER = 196;
    private static final int COMPARE_HIGHER = 200;
    private static final int TIME_LOWER = 204;
    private static final int TIME_HIGHER = 208;

    private final Sources sources;
    private final Context machine;
    private final Context supervisor;
    private final Timer timer;

    private Devices(int edges) {
      sources = new Sources(edges);
      machine = new Context(sources, 0);
      supervisor = new Context(sources, 1);
      timer = new Timer();
    }

    private static int faultAt(int address, boolean write) {
      if ((address & 3) != 0) {
        return WRONG;
      }
      if (!isWord(address)) {
        return ABSENT;
      }
      return write && address == PENDING_SET ? FIXED : FINE;
    }

    private static boolean isWord(int address) {
      return isPriority(address)
          || address == PENDING_SET
          || address >= MACHINE_ENABLED && address <= MACHINE_CLAIM
          || address >= SUPERVISOR_ENABLED && address <= SUPERVISOR_CLAIM
          || address >= SOFT && address <= TIME_HIGHER;
    }

    private static boolean isPriority(int address) {
      return address >= FIRST_PRIORITY && address <= LAST_PRIORITY;
    }

    private int readWord(int address) {
      if (isPriority(address)) {
        return sources.priority[address >> 2];
      }
      switch (address) {
        case PENDING_SET: return sources.pending;
        case MACHINE_ENABLED: return machine.enabledSet;
        case MACHINE_THRESHOLD: return machine.threshold;
        case MACHINE_CLAIM: return machine.claim();
        case SUPERVISOR_ENABLED: return supervisor.enabledSet;
        case SUPERVISOR_THRESHOLD: return supervisor.threshold;
        case SUPERVISOR_CLAIM: return supervisor.claim();
        case SOFT: return timer.soft;
        case COMPARE_LOWER: return (int) timer.compare;
        case COMPARE_HIGHER: return (int) (timer.compare >>> 32);
        case TIME_LOWER: return (int) timer.time;
        case TIME_HIGHER: return (int) (timer.time >>> 32);
        default: return 0;
      }
    }

    private void writeWord(int address, int value) {
      if (isPriority(address)) {
        sources.priority[address >> 2] = value & Context.THREE_BITS;
        return;
      }
      switch (address) {
        case MACHINE_ENABLED: machine.enabledSet = value & Sources.ALL; break;
        case MACHINE_THRESHOLD: machine.threshold = value & Context.THREE_BITS; break;
        case MACHINE_CLAIM: machine.complete(value); break;
        case SUPERVISOR_ENABLED: supervisor.enabledSet = value & Sources.ALL; break;
        case SUPERVISOR_THRESHOLD: supervisor.threshold = value & Context.THREE_BITS; break;
        case SUPERVISOR_CLAIM: supervisor.complete(value); break;
        case SOFT: timer.soft = value & 1; break;
        case COMPARE_LOWER: timer.compare = Timer.withLower(timer.compare, value); break;
        case COMPARE_HIGHER: timer.compare = Timer.withHigher(timer.compare, value); break;
        case TIME_LOWER: timer.time = Timer.withLower(timer.time, value); break;
        case TIME_HIGHER: timer.time = Timer.withHigher(timer.time, value); break;
        default: break;
      }
    }

    private int interrupts() {
      int set = timer.soft << 3;
      if (timer.isReached()) {
        set |= 1 << 7;
      }
      if (supervisor.isCalling()) {
        set |= 1 << 9;
      }
      if (machine.isCalling()) {
        set |= 1 << 11;
      }
      return set;
    }
  }

  /** The one STATUS that the machine sees whole and the supervisor in part. */
  private static final class Status {
    private static final int S = 1 << 1;
    private static final int M = 1 << 3;
    private static final int OLD_S = 1 << 5;
    private static final int OLD_M = 1 << 7;
    private static final int BEFORE_S = 1 << 8;
    private static final int BEFORE_M = 3 << 11;
    private static final int NO_PRIVILEGE = 2 << 11;
    private static final int OF_SUPERVISOR = S | OLD_S | BEFORE_S;
    private static final int OF_MACHINE = OF_SUPERVISOR | M | OLD_M | BEFORE_M;
    /** From S to old S, and from M to old M. */
    private static final int TO_OLD = 4;

    private int bits;

    private boolean machineOpen() {
      return (bits & M) != 0;
    }

    private boolean supervisorOpen() {
      return (bits & S) != 0;
    }

    private void changeByMachine(int value) {
      boolean stays = (value & BEFORE_M) == NO_PRIVILEGE;
      bits = replaceBits(bits, value, stays ? OF_MACHINE & ~BEFORE_M : OF_MACHINE);
    }

    private void changeBySupervisor(int value) {
      bits = replaceBits(bits, value, OF_SUPERVISOR);
    }

    private void enterMachine(int before) {
      int fresh = (bits & M) << TO_OLD | before << 11;
      bits = replaceBits(bits, fresh, M | OLD_M | BEFORE_M);
    }

    private void enterSupervisor(int before) {
      int fresh = (bits & S) << TO_OLD | before << 8;
      bits = replaceBits(bits, fresh, OF_SUPERVISOR);
    }

    private int leaveMachine() {
      int before = (bits & BEFORE_M) >> 11;
      int fresh = (bits & OLD_M) >> TO_OLD | OLD_M;
      bits = replaceBits(bits, fresh, M | OLD_M | BEFORE_M);
      return before;
    }

    private int leaveSupervisor() {
      int before = (bits & BEFORE_S) >> 8;
      int fresh = (bits & OLD_S) >> TO_OLD | OLD_S;
      bits = replaceBits(bits, fresh, OF_SUPERVISOR);
      return before;
    }
  }

  /** The registers of one privilege that a trap to it uses. */
  private static final class Handler {
    private static final int ADDRESS = ~3;
    private static final int VECTOR_BITS = ~2;
    private static final int BY_INTERRUPT = 1 << 31;

    private int vector;
    private int comeBack;
    private int cause;

    /** Writes the trap down and gives the PC that follows. */
    private int take(int counter, int number, boolean interrupt) {
      comeBack = counter & ADDRESS;
      cause = interrupt ? number | BY_INTERRUPT : number;
      int start = vector & ADDRESS;
      return interrupt && (vector & 1) != 0 ? start + 4 * number : start;
    }
  }

  private static final class Registers {
    private static final int MACHINE_STATUS = 768;
    private static final int DELEGATED_EXCEPTIONS = 770;
    private static final int DELEGATED_INTERRUPTS = 771;
    private static final int MACHINE_ENABLED = 772;
    private static final int MACHINE_VECTOR = 773;
    private static final int MACHINE_RETURN = 833;
    private static final int MACHINE_CAUSE = 834;
    private static final int MACHINE_PENDING = 836;
    private static final int SUPERVISOR_STATUS = 256;
    private static final int SUPERVISOR_ENABLED = 260;
    private static final int SUPERVISOR_VECTOR = 261;
    private static final int SUPERVISOR_RETURN = 321;
    private static final int SUPERVISOR_CAUSE = 322;
    private static final int SUPERVISOR_PENDING = 324;

    private static final int SUPERVISORS_SOFT = 1 << 1;
    /** Interrupts 1, 5 and 9. */
    private static final int OF_SUPERVISOR = 0x222;
    /** Interrupts 1, 3, 5, 7, 9 and 11. */
    private static final int ALL_INTERRUPTS = 0xAAA;
    /** Exceptions 0 .. 9, 12, 13 and 15: 11 can be raised, but never delegated. */
    private static final int CAN_BE_DELEGATED = 0xB3FF;

    private static final int[] ORDER = {11, 3, 7, 9, 1, 5};

    private final Devices devices;
    private final Status status = new Status();
    private final Handler machine = new Handler();
    private final Handler supervisor = new Handler();
    private int delegatedExceptions;
    private int delegatedInterrupts;
    private int enabled;
    /** Of PENDING only what was written: the rest is asked of the devices anew each time. */
    private int written;

    private Registers(Devices devices) {
      this.devices = devices;
    }

    private static boolean isThere(int register) {
      switch (register) {
        case MACHINE_STATUS:
        case DELEGATED_EXCEPTIONS:
        case DELEGATED_INTERRUPTS:
        case MACHINE_ENABLED:
        case MACHINE_VECTOR:
        case MACHINE_RETURN:
        case MACHINE_CAUSE:
        case MACHINE_PENDING:
        case SUPERVISOR_STATUS:
        case SUPERVISOR_ENABLED:
        case SUPERVISOR_VECTOR:
        case SUPERVISOR_RETURN:
        case SUPERVISOR_CAUSE:
        case SUPERVISOR_PENDING:
          return true;
        default:
          return false;
      }
    }

    private static boolean isOfMachine(int register) {
      return register >= MACHINE_STATUS;
    }

    private static int firstInterrupt(int set) {
      for (int i = 0; i < ORDER.length; i++) {
        if (hasBit(set, ORDER[i])) {
          return ORDER[i];
        }
      }
      return NONE_DUE;
    }

    private boolean isDelegated(int cause, boolean interrupt) {
      return hasBit(interrupt ? delegatedInterrupts : delegatedExceptions, cause);
    }

    private int pendingInterrupts() {
      return written | devices.interrupts();
    }

    private int valueOf(int register) {
      switch (register) {
        case MACHINE_STATUS: return status.bits;
        case DELEGATED_EXCEPTIONS: return delegatedExceptions;
        case DELEGATED_INTERRUPTS: return delegatedInterrupts;
        case MACHINE_ENABLED: return enabled;
        case MACHINE_VECTOR: return machine.vector;
        case MACHINE_RETURN: return machine.comeBack;
        case MACHINE_CAUSE: return machine.cause;
        case MACHINE_PENDING: return pendingInterrupts();
        case SUPERVISOR_STATUS: return status.bits & Status.OF_SUPERVISOR;
        case SUPERVISOR_ENABLED: return enabled & delegatedInterrupts;
        case SUPERVISOR_VECTOR: return supervisor.vector;
        case SUPERVISOR_RETURN: return supervisor.comeBack;
        case SUPERVISOR_CAUSE: return supervisor.cause;
        case SUPERVISOR_PENDING: return pendingInterrupts() & delegatedInterrupts;
        default: return 0;
      }
    }

    private void change(int register, int value) {
      if (isOfMachine(register)) {
        changeOfMachine(register, value);
      } else {
        changeOfSupervisor(register, value);
      }
    }

    private void changeOfMachine(int register, int value) {
      switch (register) {
        case MACHINE_STATUS: status.changeByMachine(value); break;
        case DELEGATED_EXCEPTIONS: delegatedExceptions = value & CAN_BE_DELEGATED; break;
        case DELEGATED_INTERRUPTS: delegatedInterrupts = value & OF_SUPERVISOR; break;
        case MACHINE_ENABLED: enabled = value & ALL_INTERRUPTS; break;
        case MACHINE_VECTOR: machine.vector = value & Handler.VECTOR_BITS; break;
        case MACHINE_RETURN: machine.comeBack = value & Handler.ADDRESS; break;
        case MACHINE_CAUSE: machine.cause = value; break;
        case MACHINE_PENDING: written = value & OF_SUPERVISOR; break;
        default: break;
      }
    }

    private void changeOfSupervisor(int register, int value) {
      switch (register) {
        case SUPERVISOR_STATUS: status.changeBySupervisor(value); break;
        case SUPERVISOR_ENABLED:
          enabled = replaceBits(enabled, value, delegatedInterrupts);
          break;
        case SUPERVISOR_VECTOR: supervisor.vector = value & Handler.VECTOR_BITS; break;
        case SUPERVISOR_RETURN: supervisor.comeBack = value & Handler.ADDRESS; break;
        case SUPERVISOR_CAUSE: supervisor.cause = value; break;
        case SUPERVISOR_PENDING:
          written = replaceBits(written, value, delegatedInterrupts & SUPERVISORS_SOFT);
          break;
        default: break;
      }
    }
  }
}
