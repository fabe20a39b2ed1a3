import java.util.function.Consumer;
import java.util.function.Supplier;

/** Counts the answers that are not the ones that are due, and ends a test by them. */
final class Check {
  private static final int[] REGISTERS = {
    768, 770, 771, 772, 773, 833, 834, 836, 256, 260, 261, 321, 322, 324
  };

  private static int wrong = 0;

  private Check() {}

  static void is(String what, long got, long due) {
    if (got != due) {
      fail(what + " answered " + got + ", due is " + due);
    }
  }

  static void same(String what, String got, String due) {
    if (!got.equals(due)) {
      fail(what + "\n   got " + got + "\n   due " + due);
    }
  }

  static void fail(String what) {
    wrong++;
    System.out.println(what);
  }

  /** The call throws just this kind of exception, and the hart is then as one without the call. */
  static void refuses(
      String what,
      Class<? extends RuntimeException> kind,
      Supplier<TrapHart> scene,
      Consumer<TrapHart> call) {
    TrapHart called = scene.get();
    String thrown = "nothing";
    try {
      call.accept(called);
    } catch (RuntimeException e) {
      thrown = e.getClass().getName();
    }
    same(what + " throws", thrown, kind.getName());
    same(what + " changes nothing", drain(called), drain(scene.get()));
  }

  /** All that can be seen of a hart; it is brought to the machine's privilege by that. */
  static String drain(TrapHart hart) {
    StringBuilder seen = new StringBuilder();
    seen.append("pc ").append(hart.pc()).append(" privilege ").append(hart.privilege());
    seen.append(" due ").append(hart.due());
    for (int s = 1; s <= 15; s++) {
      seen.append(" s").append(s).append(' ').append(hart.source(s));
      seen.append(' ').append(hart.load(4 * s));
    }
    for (int address : new int[] {64, 128, 132, 144, 148, 192, 196, 200, 204, 208}) {
      seen.append(" @").append(address).append(' ').append(hart.load(address));
    }
    if (hart.privilege() != 3) {
      hart.raise(11);
    }
    for (int register : REGISTERS) {
      seen.append(" r").append(register).append(' ').append(hart.read(register));
    }
    seen.append(" lines kept ").append(linesKept(hart));
    return seen.toString();
  }

  /** Which lines are high shows only in what becomes pending once all are served and completed. */
  private static String linesKept(TrapHart hart) {
    hart.store(128, -1);
    for (int s = 1; s <= 15; s++) {
      hart.store(4 * s, 1);
    }
    StringBuilder seen = new StringBuilder();
    for (int round = 0; round < 17; round++) {
      for (int s = 1; s <= 15; s++) {
        hart.load(136);
      }
      for (int s = 1; s <= 15; s++) {
        hart.store(136, s);
      }
      seen.append(hart.load(64)).append(' ');
    }
    return seen.append(hart.lines(-1)).toString();
  }

  static void end(String name) {
    System.out.println(name + ": " + (wrong == 0 ? "all as due" : wrong + " not as due"));
    if (wrong != 0) {
      System.exit(1);
    }
  }
}
