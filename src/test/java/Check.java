import java.util.function.Consumer;
import java.util.function.Supplier;

/** Counts the answers that are not the ones that are due, and ends a test by them. */
final class Check {
  private static final int[] REGISTERS = {
    768, 770, 771, 772, 773, 833, 834, 836, 256, 260, 261, 321, 322, 324
  };

  private static int wrong = 0;
  private static int cases = 0;
  /** The boundary case that is being tested, for the lines that tell what is wrong. */
  private static String now = "";

  private Check() {}

  static void is(String what, long got, long due) {
    if (got != due) {
      fail(what + " answered " + got + ", due is " + due);
    }
  }

  static void same(String what, String got, String due) {
    if (!got.equals(due)) {
      fail(what + "\n   got " + got + "\n   due " + due);
    }
  }

  static void fail(String what) {
    wrong++;
    System.out.println(now + what);
  }

  /** One boundary case: the words of the document that name it, and which side of it is tested. */
  static void test(String words, String side, Runnable body) {
    cases++;
    now = "\"" + words + "\", " + side + ": ";
    try {
      body.run();
    } catch (RuntimeException e) {
      fail("threw " + e);
    }
    now = "";
  }

  /** The call throws just this kind of exception, and the hart is then as one without the call. */
  static void refuses(
      String what,
      Class<? extends RuntimeException> kind,
      Supplier<TrapHart> scene,
      Consumer<TrapHart> call) {
    TrapHart called = scene.get();
    String thrown = "nothing";
    try {
      call.accept(called);
    } catch (RuntimeException e) {
      thrown = e.getClass().getName();
    }
    same(what + " throws", thrown, kind.getName());
    same(what + " changes nothing", drain(called), drain(scene.get()));
  }

  /** All that can be seen of a hart; it is brought to the machine's privilege by that. */
  static String drain(TrapHart hart) {
    StringBuilder seen = new StringBuilder();
    seen.append("pc ").append(hart.pc()).append(" privilege ").append(hart.privilege());
    seen.append(" due ").append(hart.due());
    for (int s = 1; s <= 15; s++) {
      seen.append(" s").append(s).append(' ').append(hart.source(s));
      seen.append(' ').append(hart.load(4 * s));
    }
    for (int address : new int[] {64, 128, 132, 144, 148, 192, 196, 200, 204, 208}) {
      seen.append(" @").append(address).append(' ').append(hart.load(address));
    }
    if (hart.privilege() != 3) {
      hart.raise(11);
    }
    for (int register : REGISTERS) {
      seen.append(" r").append(register).append(' ').append(hart.read(register));
    }
    seen.append(" lines kept ").append(linesKept(hart));
    return seen.toString();
  }

  /**
   * Which lines are high shows in what becomes pending again once all are served and completed, and
   * in the edges that a rise of all lines adds. One round: an object is good for 512 calls alone.
   */
  private static String linesKept(TrapHart hart) {
    hart.store(128, -1);
    for (int s = 1; s <= 15; s++) {
      hart.store(4 * s, 1);
    }
    for (int s = 1; s <= 15; s++) {
      hart.load(136);
    }
    for (int s = 1; s <= 15; s++) {
      hart.store(136, s);
    }
    StringBuilder seen = new StringBuilder();
    seen.append(hart.load(64)).append(" then ").append(hart.lines(-1));
    for (int s = 1; s <= 15; s++) {
      seen.append(' ').append(hart.source(s));
    }
    return seen.toString();
  }

  static void end(String name) {
    String tested = cases == 0 ? name : name + " (" + cases + " cases)";
    System.out.println(tested + ": " + (wrong == 0 ? "all as due" : wrong + " not as due"));
    if (wrong != 0) {
      System.exit(1);
    }
  }
}
