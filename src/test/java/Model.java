import java.math.BigInteger;
import java.util.Arrays;
import java.util.List;
import java.util.Map;
import java.util.NoSuchElementException;
import java.util.TreeMap;
import java.util.TreeSet;

/**
 * A second reading of the document, made of sets, maps and big numbers and never for speed, so that
 * a slip in the class is not likely to stand here too.
 */
final class Model {
  private static final BigInteger ALL_TIMES = BigInteger.ONE.shiftLeft(64);
  private static final BigInteger HALF = BigInteger.ONE.shiftLeft(32);
  private static final List<Integer> INTERRUPTS = List.of(11, 3, 7, 9, 1, 5);
  private static final List<Integer> OF_SUPERVISOR = List.of(1, 5, 9);
  private static final List<Integer> STATUS_BITS = List.of(1, 3, 5, 7, 8, 11, 12);
  private static final List<Integer> S_STATUS_BITS = List.of(1, 5, 8);
  private static final List<Integer> DELEGABLE = List.of(0, 1, 2, 3, 4, 5, 6, 7, 8, 9, 12, 13, 15);

  private static final class Source {
    boolean ofEdges;
    boolean high;
    boolean pending;
    int priority;
    int waiting;
    Integer servedBy;

    void forward() {
      if (pending || servedBy != null) {
        return;
      }
      if (ofEdges && waiting > 0) {
        waiting--;
        pending = true;
      }
      if (!ofEdges && high) {
        pending = true;
      }
    }
  }

  private final Map<Integer, Source> sources = new TreeMap<>();
  private final List<TreeSet<Integer>> enabledSources =
      List.of(new TreeSet<Integer>(), new TreeSet<Integer>());
  private final int[] thresholds = new int[2];
  private BigInteger time = BigInteger.ZERO;
  private BigInteger compare = ALL_TIMES.subtract(BigInteger.ONE);
  private boolean soft;

  private final TreeSet<Integer> status = new TreeSet<>();
  private final TreeSet<Integer> delegatedExceptions = new TreeSet<>();
  private final TreeSet<Integer> delegatedInterrupts = new TreeSet<>();
  private final TreeSet<Integer> enabled = new TreeSet<>();
  private final TreeSet<Integer> written = new TreeSet<>();
  /** VECTOR, RETURN and CAUSE of both, by their numbers. */
  private final Map<Integer, Integer> plain = new TreeMap<>();

  private int privilege = 3;
  private int pc = 0;

  Model(int edges) {
    for (int s = 1; s <= 15; s++) {
      Source source = new Source();
      source.ofEdges = bits(edges).contains(s);
      sources.put(s, source);
    }
    for (int register : List.of(773, 833, 834, 261, 321, 322)) {
      plain.put(register, 0);
    }
  }

  private static TreeSet<Integer> bits(int number) {
    TreeSet<Integer> bits = new TreeSet<>();
    for (int bit = 0; bit < 32; bit++) {
      if ((number >>> bit) % 2 != 0) {
        bits.add(bit);
      }
    }
    return bits;
  }

  private static int number(Iterable<Integer> bits) {
    int number = 0;
    for (int bit : bits) {
      number |= 1 << bit;
    }
    return number;
  }

  private static void put(TreeSet<Integer> set, int value, Iterable<Integer> changing) {
    for (int bit : changing) {
      set.remove(bit);
      if (bits(value).contains(bit)) {
        set.add(bit);
      }
    }
  }

  private static void put(TreeSet<Integer> set, int bit, boolean in) {
    put(set, in ? 1 << bit : 0, List.of(bit));
  }

  int lines(int set) {
    sources.forEach(
        (s, source) -> {
          boolean was = source.high;
          source.high = bits(set).contains(s);
          if (source.ofEdges && !was && source.high) {
            source.waiting = Math.min(15, source.waiting + 1);
          }
          source.forward();
        });
    return pendingSources();
  }

  private int pendingSources() {
    TreeSet<Integer> pending = new TreeSet<>();
    sources.forEach(
        (s, source) -> {
          if (source.pending) {
            pending.add(s);
          }
        });
    return number(pending);
  }

  void ticks(int n) {
    if (n < 0) {
      throw new IllegalArgumentException();
    }
    time = time.add(BigInteger.valueOf(n)).mod(ALL_TIMES);
  }

  private static boolean isWrong(int address) {
    return Math.floorMod(address, 4) != 0;
  }

  private static boolean isAbsent(int address) {
    return !Arrays.asList(
            4, 8, 12, 16, 20, 24, 28, 32, 36, 40, 44, 48, 52, 56, 60,
            64, 128, 132, 136, 144, 148, 152, 192, 196, 200, 204, 208)
        .contains(address);
  }

  int load(int address) {
    if (isWrong(address)) {
      throw new IllegalArgumentException();
    }
    if (isAbsent(address)) {
      throw new IndexOutOfBoundsException();
    }
    if (address < 64) {
      return sources.get(address / 4).priority;
    }
    int c = address >= 144 ? 1 : 0;
    return switch (address) {
      case 64 -> pendingSources();
      case 128, 144 -> number(enabledSources.get(c));
      case 132, 148 -> thresholds[c];
      case 136, 152 -> claim(c);
      case 192 -> soft ? 1 : 0;
      case 196 -> compare.mod(HALF).intValue();
      case 200 -> compare.divide(HALF).intValue();
      case 204 -> time.mod(HALF).intValue();
      default -> time.divide(HALF).intValue();
    };
  }

  private int claim(int c) {
    for (int priority = 7; priority >= 1; priority--) {
      for (int s : enabledSources.get(c)) {
        Source source = sources.get(s);
        if (source.pending && source.priority == priority) {
          source.pending = false;
          source.servedBy = c;
          return s;
        }
      }
    }
    return 0;
  }

  void store(int address, int value) {
    if (isWrong(address)) {
      throw new IllegalArgumentException();
    }
    if (isAbsent(address)) {
      throw new IndexOutOfBoundsException();
    }
    if (address == 64) {
      throw new UnsupportedOperationException();
    }
    if (address < 64) {
      sources.get(address / 4).priority = Math.floorMod(value, 8);
      return;
    }
    int c = address >= 144 ? 1 : 0;
    switch (address) {
      case 128, 144 -> put(enabledSources.get(c), value, sources.keySet());
      case 132, 148 -> thresholds[c] = Math.floorMod(value, 8);
      case 136, 152 -> complete(c, value);
      case 192 -> soft = Math.floorMod(value, 2) == 1;
      case 196 -> compare = join(compare.divide(HALF), unsigned(value));
      case 200 -> compare = join(unsigned(value), compare.mod(HALF));
      case 204 -> time = join(time.divide(HALF), unsigned(value));
      default -> time = join(unsigned(value), time.mod(HALF));
    }
  }

  private static BigInteger unsigned(int value) {
    return new BigInteger(Integer.toUnsignedString(value));
  }

  private static BigInteger join(BigInteger higher, BigInteger lower) {
    return higher.multiply(HALF).add(lower);
  }

  private void complete(int c, int number) {
    if (enabledSources.get(c).contains(number) && sources.get(number).servedBy != null) {
      sources.get(number).servedBy = null;
      sources.get(number).forward();
    }
  }

  long access(int address, boolean write, int value) {
    try {
      long word = 0;
      if (write) {
        store(address, value);
      } else {
        word = Integer.toUnsignedLong(load(address));
      }
      pc += 4;
      return word;
    } catch (IllegalArgumentException e) {
      return trapByAccess(write ? 6 : 4);
    } catch (IndexOutOfBoundsException | UnsupportedOperationException e) {
      return trapByAccess(write ? 7 : 5);
    }
  }

  private long trapByAccess(int cause) {
    trap(cause, false);
    return -1 - cause;
  }

  private void checkRegister(int register) {
    boolean machines = List.of(768, 770, 771, 772, 773, 833, 834, 836).contains(register);
    boolean supervisors = List.of(256, 260, 261, 321, 322, 324).contains(register);
    if (!machines && !supervisors) {
      throw new NoSuchElementException();
    }
    if (machines && privilege < 3 || privilege < 1) {
      throw new IllegalStateException();
    }
  }

  int read(int register) {
    checkRegister(register);
    return switch (register) {
      case 768 -> number(status);
      case 256 -> number(both(status, S_STATUS_BITS));
      case 770 -> number(delegatedExceptions);
      case 771 -> number(delegatedInterrupts);
      case 772 -> number(enabled);
      case 260 -> number(both(enabled, delegatedInterrupts));
      case 836 -> number(pending());
      case 324 -> number(both(pending(), delegatedInterrupts));
      default -> plain.get(register);
    };
  }

  private static TreeSet<Integer> both(TreeSet<Integer> one, Iterable<Integer> other) {
    TreeSet<Integer> both = new TreeSet<>();
    for (int bit : other) {
      if (one.contains(bit)) {
        both.add(bit);
      }
    }
    return both;
  }

  private TreeSet<Integer> pending() {
    TreeSet<Integer> pending = new TreeSet<>(written);
    if (soft) {
      pending.add(3);
    }
    if (time.compareTo(compare) >= 0) {
      pending.add(7);
    }
    if (isCalling(0)) {
      pending.add(11);
    }
    if (isCalling(1)) {
      pending.add(9);
    }
    return pending;
  }

  private boolean isCalling(int c) {
    return enabledSources.get(c).stream()
        .map(sources::get)
        .anyMatch(source -> source.pending && source.priority > thresholds[c]);
  }

  void write(int register, int value) {
    checkRegister(register);
    switch (register) {
      case 768 -> {
        boolean two = bits(value).contains(12) && !bits(value).contains(11);
        put(status, value, two ? List.of(1, 3, 5, 7, 8) : STATUS_BITS);
      }
      case 256 -> put(status, value, S_STATUS_BITS);
      case 770 -> put(delegatedExceptions, value, DELEGABLE);
      case 771 -> put(delegatedInterrupts, value, OF_SUPERVISOR);
      case 772 -> put(enabled, value, INTERRUPTS);
      case 260 -> put(enabled, value, delegatedInterrupts);
      case 836 -> put(written, value, OF_SUPERVISOR);
      case 324 -> put(written, value, both(delegatedInterrupts, List.of(1)));
      case 773, 261 -> plain.put(register, without(value, 1));
      case 833, 321 -> plain.put(register, without(without(value, 0), 1));
      default -> plain.put(register, value);
    }
  }

  private static int without(int value, int bit) {
    TreeSet<Integer> bits = bits(value);
    bits.remove(bit);
    return number(bits);
  }

  private void trap(int cause, boolean interrupt) {
    TreeSet<Integer> delegated = interrupt ? delegatedInterrupts : delegatedExceptions;
    boolean supervisor = privilege < 3 && delegated.contains(cause);
    plain.put(supervisor ? 321 : 833, without(without(pc, 0), 1));
    plain.put(supervisor ? 322 : 834, interrupt ? cause + Integer.MIN_VALUE : cause);
    int open = supervisor ? 1 : 3;
    put(status, supervisor ? 5 : 7, status.contains(open));
    put(status, open, false);
    if (supervisor) {
      put(status, 8, privilege == 1);
    } else {
      put(status, 11, privilege % 2 == 1);
      put(status, 12, privilege >= 2);
    }
    privilege = supervisor ? 1 : 3;
    int vector = plain.get(supervisor ? 261 : 773);
    pc = without(without(vector, 0), 1);
    if (interrupt && bits(vector).contains(0)) {
      pc += 4 * cause;
    }
  }

  int step() {
    int taken = due();
    if (taken == -1) {
      pc += 4;
    } else {
      trap(taken, true);
    }
    return taken;
  }

  int due() {
    for (boolean delegated : new boolean[] {false, true}) {
      for (int interrupt : INTERRUPTS) {
        if (delegatedInterrupts.contains(interrupt) == delegated && isDue(interrupt, delegated)) {
          return interrupt;
        }
      }
    }
    return -1;
  }

  private boolean isDue(int interrupt, boolean delegated) {
    if (!pending().contains(interrupt) || !enabled.contains(interrupt)) {
      return false;
    }
    return delegated
        ? privilege == 0 || privilege == 1 && status.contains(1)
        : privilege != 3 || status.contains(3);
  }

  int raise(int cause) {
    if (!DELEGABLE.contains(cause) && cause != 11) {
      throw new IllegalArgumentException();
    }
    trap(cause, false);
    return privilege;
  }

  int leave(boolean machine) {
    if (machine && privilege != 3 || !machine && privilege == 0) {
      throw new IllegalStateException();
    }
    int one = status.contains(machine ? 11 : 8) ? 1 : 0;
    privilege = machine && status.contains(12) ? 2 + one : one;
    put(status, machine ? 3 : 1, status.contains(machine ? 7 : 5));
    put(status, machine ? 7 : 5, true);
    for (int bit : machine ? List.of(11, 12) : List.of(8)) {
      put(status, bit, false);
    }
    pc = plain.get(machine ? 833 : 321);
    return privilege;
  }

  int privilege() {
    return privilege;
  }

  int pc() {
    return pc;
  }

  int source(int s) {
    if (!sources.containsKey(s)) {
      throw new IndexOutOfBoundsException();
    }
    Source source = sources.get(s);
    return 4 * source.waiting + (source.servedBy == null ? 0 : 1 + source.servedBy);
  }
}
