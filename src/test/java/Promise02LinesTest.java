/** Promise 2: lines, and the forwarding that follows. */
public final class Promise02LinesTest {
  private static void testLevel() {
    TrapHart hart = new TrapHart(0);
    Check.is("bits 0 and above 15 are no lines", hart.lines(0xFFFF0001), 0);
    Check.is("one line", hart.lines(1 << 15), 1 << 15);
    Check.is("a pending one stays when its line falls", hart.lines(1 << 1), 1 << 15 | 1 << 1);
    Check.is("all", hart.lines(-1), 0xFFFE);
    Check.is("all fall", hart.lines(0), 0xFFFE);
    Check.is("word 64", hart.load(64), 0xFFFE);
  }

  private static void testServedLevelDoesNotForward() {
    TrapHart hart = new TrapHart(0);
    hart.store(12, 1);
    hart.store(128, 8);
    hart.lines(8);
    Check.is("claim", hart.load(136), 3);
    Check.is("served, line still high", hart.lines(8), 0);
    Check.is("served, line low", hart.lines(0), 0);
    Check.is("served, line high again", hart.lines(8), 0);
    Check.is("only the server is told", hart.source(3), 1);
    hart.store(136, 3);
    Check.is("completed, line high", hart.load(64), 8);
    Check.is("claim again", hart.load(136), 3);
    hart.lines(0);
    hart.store(136, 3);
    Check.is("completed, line low", hart.load(64), 0);
  }

  private static void testEdges() {
    TrapHart hart = new TrapHart(4);
    Check.is("rise", hart.lines(4), 4);
    Check.is("the one edge was forwarded", hart.source(2), 0);
    Check.is("stays high", hart.lines(4), 4);
    Check.is("no new edge", hart.source(2), 0);
    hart.lines(0);
    Check.is("a fall is no edge", hart.source(2), 0);
    hart.lines(4);
    Check.is("the second waits", hart.source(2), 4);
  }

  private static void testFifteenWait() {
    TrapHart hart = new TrapHart(1 << 15);
    hart.store(60, 7);
    hart.store(144, 1 << 15);
    for (int edge = 1; edge <= 20; edge++) {
      hart.lines(1 << 15);
      hart.lines(0);
      Check.is("after " + edge, hart.source(15), 4 * Math.min(15, edge - 1));
    }
    for (int left = 15; left >= 0; left--) {
      Check.is("claim", hart.load(152), 15);
      Check.is("served by context 1", hart.source(15), 4 * left + 2);
      hart.store(152, 15);
      Check.is("forwarded", hart.source(15), left == 0 ? 0 : 4 * (left - 1));
      Check.is("pending", hart.load(64), left == 0 ? 0 : 1 << 15);
    }
  }

  /** With 15 waiting, not pending and not served cannot be; served, the 16th edge is lost. */
  private static void testServedEdgesWait() {
    TrapHart hart = new TrapHart(2);
    hart.store(4, 1);
    hart.store(128, 2);
    hart.lines(2);
    hart.load(136);
    for (int edge = 1; edge <= 17; edge++) {
      hart.lines(0);
      Check.is("served, so not pending", hart.lines(2), 0);
      Check.is("waiting", hart.source(1), 4 * Math.min(15, edge) + 1);
    }
    hart.store(136, 1);
    Check.is("one less waits", hart.source(1), 4 * 14);
  }

  private static void testMixed() {
    TrapHart hart = new TrapHart(0x00AA);
    Check.is("both kinds", hart.lines(0x0033), 0x0032);
    Check.is("both kinds, others too", hart.lines(0x00CC), 0x00FE);
    Check.is("none waits", hart.source(1) + hart.source(5) + hart.source(7), 0);
    hart.lines(0x0033);
    Check.is("source 1 rose twice", hart.source(1), 4);
    Check.is("source 4 is of level", hart.source(4), 0);
    Check.is("source 5 rose twice", hart.source(5), 4);
    Check.is("source 7 rose once", hart.source(7), 0);
  }

  public static void main(String[] args) {
    testLevel();
    testServedLevelDoesNotForward();
    testEdges();
    testFifteenWait();
    testServedEdgesWait();
    testMixed();
    Check.end("Promise02LinesTest");
  }
}
