/** Terms, the boundaries of sources: their numbers, lines, priorities, edges and forwarding. */
public final class BoundarySourcesTest {
  /** Source 1 is of edges and enabled in context 0, with so many edges waiting behind a pending. */
  private static TrapHart withWaiting(int waiting) {
    TrapHart hart = new TrapHart(2);
    hart.store(4, 1);
    hart.store(128, 2);
    for (int edge = 0; edge <= waiting; edge++) {
      rise(hart, 2);
    }
    return hart;
  }

  private static void rise(TrapHart hart, int set) {
    hart.lines(set);
    hart.lines(0);
  }

  /** Source 1 is of level and served by context 0, and its line is low again. */
  private static TrapHart servedLevel() {
    TrapHart hart = new TrapHart(0);
    hart.store(4, 1);
    hart.store(128, 2);
    hart.lines(2);
    hart.load(136);
    hart.lines(0);
    return hart;
  }

  private static void checkWholeLife(int s) {
    TrapHart hart = new TrapHart(0);
    hart.store(4 * s, 1);
    hart.store(128, 1 << s);
    Check.is("its line", hart.lines(1 << s), 1 << s);
    Check.is("it calls", hart.read(Harts.PENDING), 1 << 11);
    Check.is("it is claimed", hart.load(136), s);
    Check.is("it is served", hart.source(s), 1);
    hart.store(136, s);
    Check.is("it is completed", hart.source(s), 0);
    Check.is("it forwards", hart.load(64), 1 << s);
  }

  private static void checkNoSource(int bit) {
    TrapHart hart = new TrapHart(1 << bit);
    Check.is("no line", hart.lines(1 << bit), 0);
    hart.store(128, 1 << bit);
    Check.is("not in the enabled set", hart.load(128), 0);
    Check.is("not claimed", hart.load(136), 0);
    Check.is("not calling", hart.read(Harts.PENDING), 0);
  }

  private static void lowAtFirstSoTheFirstRiseIsAnEdge() {
    TrapHart hart = new TrapHart(0xFFFE);
    Check.is("none rises", hart.lines(0), 0);
    Check.is("all rise", hart.lines(0xFFFE), 0xFFFE);
  }

  private static void lowAtFirstSoNothingOfLevelForwards() {
    Check.is("pending", new TrapHart(0).load(64), 0);
    Check.is("pending", new TrapHart(0).lines(0), 0);
  }

  private static void priorityZeroAtFirst() {
    TrapHart hart = new TrapHart(0);
    hart.store(128, -1);
    hart.lines(-1);
    Check.is("not claimed", hart.load(136), 0);
    Check.is("not calling", hart.read(Harts.PENDING), 0);
  }

  private static void prioritySevenIsTheGreatest() {
    TrapHart hart = new TrapHart(0);
    hart.store(4, 6);
    hart.store(8, 7);
    hart.store(12, 8);
    hart.store(128, -1);
    hart.lines(-1);
    Check.is("7 comes first", hart.load(136), 2);
    Check.is("6 follows", hart.load(136), 1);
    Check.is("8 is 0", hart.load(136), 0);
  }

  private static void noEdgeWaits() {
    Check.is("at first", new TrapHart(2).source(1), 0);
    Check.is("one pends, none waits", withWaiting(0).source(1), 0);
  }

  private static void fourteenBecomeFifteen() {
    TrapHart hart = withWaiting(14);
    Check.is("14 wait", hart.source(1), 4 * 14);
    rise(hart, 2);
    Check.is("15 wait", hart.source(1), 4 * 15);
  }

  private static void fifteenStay() {
    TrapHart hart = withWaiting(15);
    Check.is("15 wait", hart.source(1), 4 * 15);
    rise(hart, 2);
    Check.is("the 16th is lost", hart.source(1), 4 * 15);
    rise(hart, 2);
    Check.is("the 17th too", hart.source(1), 4 * 15);
  }

  private static void fifteenStayWhileServed() {
    TrapHart hart = withWaiting(15);
    hart.load(136);
    rise(hart, 2);
    Check.is("the 16th is lost", hart.source(1), 4 * 15 + 1);
  }

  private static void thereIsRoomAgain() {
    TrapHart hart = withWaiting(15);
    hart.load(136);
    hart.store(136, 1);
    Check.is("one was forwarded", hart.source(1), 4 * 14);
    rise(hart, 2);
    Check.is("15 again", hart.source(1), 4 * 15);
  }

  private static void sixteenthEdgeOfOneDoesNotTouchAnother() {
    TrapHart hart = new TrapHart(6);
    for (int edge = 1; edge <= 16; edge++) {
      rise(hart, 2);
    }
    rise(hart, 6);
    Check.is("source 1 is full", hart.source(1), 4 * 15);
    Check.is("source 2 pends", hart.load(64), 6);
    rise(hart, 6);
    Check.is("source 2 has one waiting", hart.source(2), 4);
  }

  private static void pendingDoesNotForward() {
    TrapHart hart = withWaiting(1);
    hart.lines(0);
    hart.lines(0);
    Check.is("it waits on", hart.source(1), 4);
    Check.is("it pends once", hart.load(64), 2);
  }

  private static void servedDoesNotForward() {
    TrapHart edges = withWaiting(1);
    edges.load(136);
    Check.is("one of edges", edges.lines(0), 0);
    Check.is("it waits on", edges.source(1), 4 + 1);
    TrapHart level = servedLevel();
    Check.is("one of level", level.lines(2), 0);
  }

  private static void levelWithALowLine() {
    TrapHart hart = servedLevel();
    hart.store(136, 1);
    Check.is("nothing forwards", hart.load(64), 0);
  }

  private static void levelWithAHighLine() {
    TrapHart hart = servedLevel();
    hart.lines(2);
    hart.store(136, 1);
    Check.is("it forwards at once", hart.load(64), 2);
  }

  private static void levelCountsNoRises() {
    TrapHart hart = servedLevel();
    rise(hart, 2);
    rise(hart, 2);
    Check.is("none waits", hart.source(1), 1);
    hart.store(136, 1);
    Check.is("nothing forwards", hart.load(64), 0);
  }

  private static void noneWaitingButAHighLine() {
    TrapHart hart = new TrapHart(2);
    hart.store(4, 1);
    hart.store(128, 2);
    hart.lines(2);
    hart.load(136);
    hart.store(136, 1);
    Check.is("not pending", hart.load(64), 0);
    Check.is("nor when the lines stay", hart.lines(2), 0);
  }

  private static void oneWaitingAndALowLine() {
    TrapHart hart = withWaiting(1);
    hart.load(136);
    hart.store(136, 1);
    Check.is("it forwards", hart.load(64), 2);
    Check.is("none waits", hart.source(1), 0);
  }

  private static void theFirstEdgeForwardsAtOnce() {
    TrapHart hart = new TrapHart(2);
    Check.is("pending", hart.lines(2), 2);
    Check.is("none waits", hart.source(1), 0);
  }

  private static void fifteenWaitingAreForwardedOneByOne() {
    TrapHart hart = withWaiting(15);
    for (int left = 15; left >= 1; left--) {
      Check.is("claim", hart.load(136), 1);
      hart.store(136, 1);
      Check.is("pending again", hart.load(64), 2);
      Check.is("one less waits", hart.source(1), 4 * (left - 1));
    }
    hart.load(136);
    hart.store(136, 1);
    Check.is("the last", hart.load(64), 0);
  }

  private static void pendingStaysWhenItsLineFalls() {
    TrapHart hart = new TrapHart(0);
    hart.lines(2);
    Check.is("pending", hart.lines(0), 2);
    Check.is("pending", hart.load(64), 2);
  }

  private static void fallenLineIsGoneOnceServed() {
    TrapHart hart = new TrapHart(0);
    hart.store(4, 1);
    hart.store(128, 2);
    rise(hart, 2);
    Check.is("still claimed", hart.load(136), 1);
    hart.store(136, 1);
    Check.is("not pending again", hart.load(64), 0);
  }

  private static void neighboursOfOneOfEdgesAreOfLevel() {
    TrapHart hart = new TrapHart(1 << 7);
    rise(hart, -1);
    rise(hart, -1);
    Check.is("source 6", hart.source(6), 0);
    Check.is("source 7", hart.source(7), 4);
    Check.is("source 8", hart.source(8), 0);
  }

  private static void servedByEither() {
    for (int c = 0; c <= 1; c++) {
      TrapHart hart = new TrapHart(0);
      hart.store(4, 1);
      hart.store(128 + 16 * c, 2);
      hart.lines(2);
      Check.is("by none", hart.source(1), 0);
      hart.load(136 + 16 * c);
      Check.is("by context " + c, hart.source(1), 1 + c);
    }
  }

  private static void testNumbersAndLines() {
    String numbers = "SOURCES 1 .. 15 have a LINE";
    Check.test(numbers, "1, the first", () -> checkWholeLife(1));
    Check.test(numbers, "15, the last", () -> checkWholeLife(15));
    Check.test(numbers, "0, too small", () -> checkNoSource(0));
    Check.test(numbers, "16, too large", () -> checkNoSource(16));
    Check.test(numbers, "31, far too large", () -> checkNoSource(31));
    String low = "high or low (at first low)";
    Check.test(low, "of edges", BoundarySourcesTest::lowAtFirstSoTheFirstRiseIsAnEdge);
    Check.test(low, "of level", BoundarySourcesTest::lowAtFirstSoNothingOfLevelForwards);
    String priority = "a PRIORITY 0 .. 7 (at first 0)";
    Check.test(priority, "0", BoundarySourcesTest::priorityZeroAtFirst);
    Check.test(priority, "7 and 8", BoundarySourcesTest::prioritySevenIsTheGreatest);
    String served = "they may be SERVED by a context 0 (machine) or 1 (supervisor)";
    Check.test(served, "none, 0 and 1", BoundarySourcesTest::servedByEither);
    String which = "which are of EDGES, the others are of LEVEL";
    Check.test(which, "neighbours", BoundarySourcesTest::neighboursOfOneOfEdgesAreOfLevel);
  }

  private static void testWaiting() {
    String count = "A source of edges has a count of WAITING edges, 0 .. 15";
    Check.test(count, "0", BoundarySourcesTest::noEdgeWaits);
    Check.test(count, "14", BoundarySourcesTest::fourteenBecomeFifteen);
    Check.test(count, "15, full", BoundarySourcesTest::fifteenStay);
    Check.test(count, "15, full and served", BoundarySourcesTest::fifteenStayWhileServed);
    Check.test(count, "full, then room", BoundarySourcesTest::thereIsRoomAgain);
    Check.test(count, "of each", BoundarySourcesTest::sixteenthEdgeOfOneDoesNotTouchAnother);
  }

  private static void testForwarding() {
    String neither = "A source that is neither pending nor served FORWARDS";
    Check.test(neither, "pending", BoundarySourcesTest::pendingDoesNotForward);
    Check.test(neither, "served", BoundarySourcesTest::servedDoesNotForward);
    String level = "one of level becomes pending if its line is high";
    Check.test(level, "low", BoundarySourcesTest::levelWithALowLine);
    Check.test(level, "high", BoundarySourcesTest::levelWithAHighLine);
    Check.test(level, "high between", BoundarySourcesTest::levelCountsNoRises);
    String edges = "one of edges if some are waiting, and one less is waiting then";
    Check.test(edges, "none", BoundarySourcesTest::noneWaitingButAHighLine);
    Check.test(edges, "one", BoundarySourcesTest::oneWaitingAndALowLine);
    Check.test(edges, "the first", BoundarySourcesTest::theFirstEdgeForwardsAtOnce);
    Check.test(edges, "all 15", BoundarySourcesTest::fifteenWaitingAreForwardedOneByOne);
    String falls = "a pending source of level stays pending when its line falls";
    Check.test(falls, "it falls", BoundarySourcesTest::pendingStaysWhenItsLineFalls);
    Check.test(falls, "until it is served", BoundarySourcesTest::fallenLineIsGoneOnceServed);
  }

  public static void main(String[] args) {
    testNumbersAndLines();
    testWaiting();
    testForwarding();
    Check.end("BoundarySourcesTest");
  }
}
