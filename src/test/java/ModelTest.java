import java.util.Random;
import java.util.function.Supplier;

/** Long runs of calls, the same each time, on the class and on the model beside it. */
public final class ModelTest {
  private static final int RUNS = 1500;
  /** Three more follow each, and an object is good for 512 in all. */
  private static final int CALLS = 128;
  private static final int[] REGISTERS = {
    768, 770, 771, 772, 773, 833, 834, 836, 256, 260, 261, 321, 322, 324
  };
  private static final int[] ADDRESSES = {
    64, 128, 132, 136, 144, 148, 152, 192, 196, 200, 204, 208
  };
  private static final int[] VALUES = {
    0, 1, -1, 2, 7, 8, 0x222, 0xAAA, 0x1000, 0x800, 0x1800, 0x19AA, 0xFFFE, Integer.MIN_VALUE
  };

  private final Random random;
  private final TrapHart hart;
  private final Model model;
  private final StringBuilder calls = new StringBuilder();
  private boolean agrees = true;

  private ModelTest(int seed) {
    random = new Random(seed);
    int edges = random.nextInt();
    calls.append("new(").append(edges).append(')');
    hart = new TrapHart(edges);
    model = new Model(edges);
  }

  private static String answer(Supplier<Object> call) {
    try {
      return String.valueOf(call.get());
    } catch (RuntimeException e) {
      return "throws " + e.getClass().getName();
    }
  }

  private void both(String call, Supplier<Object> got, Supplier<Object> due) {
    calls.append(' ').append(call);
    String answered = answer(got);
    String expected = answer(due);
    if (!answered.equals(expected)) {
      agrees = false;
      Check.fail(calls + " answered " + answered + ", the model " + expected);
    }
  }

  private static Supplier<Object> nothing(Runnable call) {
    return () -> {
      call.run();
      return "";
    };
  }

  private int value() {
    return switch (random.nextInt(4)) {
      case 0 -> random.nextInt();
      case 1 -> random.nextInt(17);
      case 2 -> 1 << random.nextInt(32);
      default -> VALUES[random.nextInt(VALUES.length)];
    };
  }

  private int address() {
    return switch (random.nextInt(12)) {
      case 0 -> random.nextInt(230) - 8;
      case 1, 2, 3 -> 4 * (1 + random.nextInt(15));
      case 4, 5, 6 -> 136 + 16 * random.nextInt(2);
      default -> ADDRESSES[random.nextInt(ADDRESSES.length)];
    };
  }

  private int register() {
    return random.nextInt(20) == 0
        ? 250 + random.nextInt(600)
        : REGISTERS[random.nextInt(REGISTERS.length)];
  }

  private void call() {
    switch (random.nextInt(16)) {
      case 0, 1 -> lines();
      case 2 -> ticks();
      case 3, 4 -> load();
      case 5, 6, 7 -> store();
      case 8 -> access();
      case 9 -> read();
      case 10, 11 -> write();
      case 12 -> both("step()", hart::step, model::step);
      case 13 -> raise();
      case 14 -> leave();
      default -> source();
    }
    both("privilege()", hart::privilege, model::privilege);
    both("pc()", hart::pc, model::pc);
    both("due()", hart::due, model::due);
  }

  private void lines() {
    int set = random.nextBoolean() ? random.nextInt() : value();
    both("lines(" + set + ")", () -> hart.lines(set), () -> model.lines(set));
  }

  private void ticks() {
    int n = random.nextBoolean() ? random.nextInt(20) : value();
    both("ticks(" + n + ")", nothing(() -> hart.ticks(n)), nothing(() -> model.ticks(n)));
  }

  private void load() {
    int at = address();
    both("load(" + at + ")", () -> hart.load(at), () -> model.load(at));
  }

  private void store() {
    int at = address();
    int value = value();
    both(
        "store(" + at + ", " + value + ")",
        nothing(() -> hart.store(at, value)),
        nothing(() -> model.store(at, value)));
  }

  private void access() {
    int at = address();
    boolean write = random.nextBoolean();
    int value = value();
    both(
        "access(" + at + ", " + write + ", " + value + ")",
        () -> hart.access(at, write, value),
        () -> model.access(at, write, value));
  }

  private void read() {
    int register = register();
    both("read(" + register + ")", () -> hart.read(register), () -> model.read(register));
  }

  private void write() {
    int register = register();
    int value = value();
    both(
        "write(" + register + ", " + value + ")",
        nothing(() -> hart.write(register, value)),
        nothing(() -> model.write(register, value)));
  }

  private void raise() {
    int cause = random.nextInt(18) - 1;
    both("raise(" + cause + ")", () -> hart.raise(cause), () -> model.raise(cause));
  }

  private void leave() {
    boolean machine = random.nextBoolean();
    both("leave(" + machine + ")", () -> hart.leave(machine), () -> model.leave(machine));
  }

  private void source() {
    int s = random.nextInt(18) - 1;
    both("source(" + s + ")", () -> hart.source(s), () -> model.source(s));
  }

  private void run() {
    for (int call = 0; call < CALLS && agrees; call++) {
      call();
    }
  }

  public static void main(String[] args) {
    for (int seed = 1; seed <= RUNS; seed++) {
      new ModelTest(seed).run();
    }
    Check.end("ModelTest");
  }
}
