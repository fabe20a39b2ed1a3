/** Promise 15: what is told of a source. */
public final class Promise15SourceTest {
  private static void testEachSource() {
    for (int s = 1; s <= 15; s++) {
      for (int c = 0; c <= 1; c++) {
        TrapHart hart = new TrapHart(1 << s);
        hart.store(4 * s, 1);
        hart.store(128 + 16 * c, 1 << s);
        hart.lines(1 << s);
        hart.lines(0);
        hart.lines(1 << s);
        hart.lines(0);
        hart.lines(1 << s);
        Check.is("two wait, one pends", hart.source(s), 8);
        hart.load(136 + 16 * c);
        Check.is("served", hart.source(s), 8 + 1 + c);
        for (int other = 1; other <= 15; other++) {
          if (other != s) {
            Check.is("another", hart.source(other), 0);
          }
        }
        hart.store(136 + 16 * c, s);
        Check.is("completed and forwarded", hart.source(s), 4);
      }
    }
  }

  private static void testLevel() {
    TrapHart hart = new TrapHart(0);
    hart.store(8, 1);
    hart.store(144, 4);
    hart.lines(4);
    Check.is("pending is not told", hart.source(2), 0);
    hart.load(152);
    Check.is("served by context 1", hart.source(2), 2);
    hart.store(152, 2);
    Check.is("completed", hart.source(2), 0);
  }

  private static void testRefused() {
    for (int s : new int[] {0, -1, 16, 17, 32, 33, Integer.MIN_VALUE, Integer.MAX_VALUE}) {
      Check.refuses(
          "source(" + s + ")",
          IndexOutOfBoundsException.class,
          () -> Harts.busy(0),
          hart -> hart.source(s));
    }
  }

  private static void testAsking() {
    TrapHart asked = Harts.busy(3);
    for (int s = 1; s <= 15; s++) {
      asked.source(s);
    }
    Check.same("asking", Check.drain(asked), Check.drain(Harts.busy(3)));
  }

  public static void main(String[] args) {
    testEachSource();
    testLevel();
    testRefused();
    testAsking();
    Check.end("Promise15SourceTest");
  }
}
