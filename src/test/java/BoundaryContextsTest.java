/** Terms, the boundaries of contexts: what they claim, what they complete, when they call. */
public final class BoundaryContextsTest {
  private static final int[] CONTEXTS = {0, 1};
  private static final int[] CALL_BIT = {1 << 11, 1 << 9};
  private static final int[] NO_SOURCES = {
    0, -1, -15, 16, 17, 31, 32, 1 + 16, 1 + 32, 1 + 256, 1 + 65536,
    1 | Integer.MIN_VALUE, Integer.MIN_VALUE, Integer.MAX_VALUE
  };

  private static int enabled(int c) {
    return 128 + 16 * c;
  }

  private static int threshold(int c) {
    return 132 + 16 * c;
  }

  private static int claim(int c) {
    return 136 + 16 * c;
  }

  /** All sources are of level, high and of priority 1; the context has the set enabled. */
  private static TrapHart with(int c, int set) {
    TrapHart hart = new TrapHart(0);
    for (int s = 1; s <= 15; s++) {
      hart.store(4 * s, 1);
    }
    hart.store(enabled(c), set);
    hart.lines(-1);
    return hart;
  }

  /** Source 1 is served by the context, and then all lines are low. */
  private static TrapHart serving(int c) {
    TrapHart hart = new TrapHart(0);
    hart.store(4, 1);
    hart.store(enabled(c), 2);
    hart.lines(2);
    hart.load(claim(c));
    hart.lines(0);
    return hart;
  }

  private static void checkCalling(TrapHart hart, int c, boolean due) {
    int shown = hart.read(Harts.PENDING) & CALL_BIT[c];
    Check.is("context " + c + " calling", shown, due ? CALL_BIT[c] : 0);
  }

  private static void emptyAtFirst() {
    for (int c : CONTEXTS) {
      TrapHart hart = with(1 - c, -1);
      Check.is("the set", hart.load(enabled(c)), 0);
      Check.is("claim", hart.load(claim(c)), 0);
      checkCalling(hart, c, false);
      checkCalling(hart, 1 - c, true);
    }
  }

  private static void emptyCompletesNothing() {
    for (int c : CONTEXTS) {
      TrapHart hart = serving(1 - c);
      hart.store(claim(c), 1);
      Check.is("still served", hart.source(1), 1 + (1 - c));
    }
  }

  private static void fullClaimsAllFifteenThenNone() {
    for (int c : CONTEXTS) {
      TrapHart hart = with(c, -1);
      for (int s = 1; s <= 15; s++) {
        Check.is("claim " + s, hart.load(claim(c)), s);
        Check.is("pending", hart.load(64), 0xFFFE & -2 << s);
      }
      Check.is("the 16th claim", hart.load(claim(c)), 0);
    }
  }

  private static void thresholdZeroAtFirst() {
    for (int c : CONTEXTS) {
      TrapHart hart = with(c, 2);
      Check.is("threshold", hart.load(threshold(c)), 0);
      checkCalling(hart, c, true);
    }
  }

  private static void thresholdSevenSilencesAll() {
    for (int c : CONTEXTS) {
      TrapHart hart = with(c, 2);
      hart.store(4, 7);
      hart.store(threshold(c), 7);
      checkCalling(hart, c, false);
      hart.store(threshold(c), 6);
      checkCalling(hart, c, true);
    }
  }

  private static void enabledButNotPending() {
    TrapHart hart = new TrapHart(0);
    hart.store(4, 7);
    hart.store(8, 1);
    hart.store(128, 6);
    hart.lines(4);
    Check.is("the pending one", hart.load(136), 2);
    Check.is("the other is not", hart.load(136), 0);
  }

  private static void pendingButNotEnabled() {
    for (int c : CONTEXTS) {
      TrapHart hart = with(c, 4);
      hart.store(enabled(1 - c), ~4);
      hart.store(4, 7);
      Check.is("the enabled one", hart.load(claim(c)), 2);
      Check.is("no other", hart.load(claim(c)), 0);
    }
  }

  private static void priorityZeroIsNotClaimed() {
    TrapHart hart = with(0, 2);
    hart.store(4, 0);
    Check.is("0", hart.load(136), 0);
    Check.is("still pending", hart.load(64) & 2, 2);
    hart.store(4, 1);
    Check.is("1", hart.load(136), 1);
  }

  private static void greatestPriorityWhateverTheNumber() {
    TrapHart hart = with(0, -1);
    hart.store(60, 7);
    hart.store(4, 6);
    hart.store(32, 2);
    Check.is("7, the last source", hart.load(136), 15);
    Check.is("6, the first source", hart.load(136), 1);
    Check.is("2, one between", hart.load(136), 8);
    Check.is("1, the least of the rest", hart.load(136), 2);
  }

  private static void leastNumberOfTheFirstAndTheLast() {
    TrapHart hart = with(0, 1 << 1 | 1 << 15);
    hart.store(4, 7);
    hart.store(60, 7);
    Check.is("1 of 1 and 15", hart.load(136), 1);
    Check.is("then 15", hart.load(136), 15);
  }

  private static void leastNumberOfNeighbours() {
    for (int s = 1; s <= 14; s++) {
      TrapHart hart = with(1, 3 << s);
      hart.store(4 * s, 4);
      hart.store(4 * s + 4, 4);
      Check.is("the less", hart.load(152), s);
      Check.is("the more", hart.load(152), s + 1);
    }
  }

  private static void claimedIsServedAndNoMorePending() {
    for (int c : CONTEXTS) {
      TrapHart hart = with(c, 8);
      hart.store(enabled(1 - c), 8);
      hart.load(claim(c));
      Check.is("served", hart.source(3), 1 + c);
      Check.is("not pending", hart.load(64), 0xFFFE & ~8);
      Check.is("the other context finds none", hart.load(claim(1 - c)), 0);
      Check.is("served as before", hart.source(3), 1 + c);
    }
  }

  private static void claimOfNoneChangesNothing() {
    for (int c : CONTEXTS) {
      TrapHart idle = new TrapHart(-1);
      Check.is("no source pends", idle.load(claim(c)), 0);
      Check.same("as new", Check.drain(idle), Check.drain(new TrapHart(-1)));
      TrapHart disabled = with(1 - c, -1);
      Check.is("none is enabled", disabled.load(claim(c)), 0);
      Check.same("as before", Check.drain(disabled), Check.drain(with(1 - c, -1)));
    }
  }

  private static void claimIgnoresTheThreshold() {
    for (int c : CONTEXTS) {
      TrapHart hart = with(c, 2);
      hart.store(threshold(c), 7);
      Check.is("priority 1", hart.load(claim(c)), 1);
    }
  }

  private static void completingWhatIsNoSource() {
    for (int c : CONTEXTS) {
      TrapHart hart = serving(c);
      hart.store(enabled(c), -1);
      for (int number : NO_SOURCES) {
        hart.store(claim(c), number);
        Check.is("after " + number, hart.source(1), 1 + c);
      }
    }
  }

  private static void completingTheFirstAndTheLast() {
    for (int s : new int[] {1, 15}) {
      TrapHart hart = with(0, 1 << s);
      hart.load(136);
      hart.lines(0);
      hart.store(136, s);
      Check.is("source " + s, hart.source(s), 0);
    }
  }

  private static void completingWhatIsNotEnabled() {
    for (int c : CONTEXTS) {
      TrapHart hart = serving(c);
      hart.store(enabled(c), ~2);
      hart.store(claim(c), 1);
      Check.is("no more enabled", hart.source(1), 1 + c);
      hart.store(enabled(c), 2);
      hart.store(claim(c), 1);
      Check.is("enabled again", hart.source(1), 0);
    }
  }

  private static void completingWhatIsIdle() {
    TrapHart hart = new TrapHart(2);
    hart.store(128, 2);
    hart.store(136, 1);
    Check.is("idle", hart.source(1), 0);
    Check.is("not pending", hart.load(64), 0);
  }

  private static void completingWhatIsPending() {
    TrapHart hart = with(0, 2);
    hart.store(136, 1);
    Check.is("still pending", hart.load(64), 0xFFFE);
    Check.is("then claimed", hart.load(136), 1);
  }

  private static void completingTwice() {
    TrapHart hart = new TrapHart(2);
    hart.store(4, 1);
    hart.store(128, 2);
    for (int edge = 1; edge <= 3; edge++) {
      hart.lines(2);
      hart.lines(0);
    }
    hart.load(136);
    hart.store(136, 1);
    Check.is("one of two was forwarded", hart.source(1), 4);
    hart.store(136, 1);
    Check.is("the second does nothing", hart.source(1), 4);
    Check.is("still pending", hart.load(64), 2);
  }

  private static void completingWhatTheOtherServes() {
    for (int c : CONTEXTS) {
      TrapHart hart = serving(1 - c);
      hart.store(enabled(c), 2);
      hart.store(claim(c), 1);
      Check.is("completed", hart.source(1), 0);
    }
  }

  private static void completingAsksNoPriority() {
    TrapHart hart = serving(0);
    hart.store(4, 0);
    hart.store(132, 7);
    hart.store(136, 1);
    Check.is("completed", hart.source(1), 0);
  }

  /** The pending set after context 0 completes source 1, whose line and waiting edges are given. */
  private static int pendingAfterCompleting(int edges, int risesWhileServed, int lineThen) {
    TrapHart hart = new TrapHart(edges);
    hart.store(4, 1);
    hart.store(128, 2);
    hart.lines(2);
    hart.load(136);
    for (int rise = 1; rise <= risesWhileServed; rise++) {
      hart.lines(0);
      hart.lines(2);
    }
    hart.lines(lineThen);
    hart.store(136, 1);
    Check.is("no more served", hart.source(1) & 3, 0);
    return hart.load(64);
  }

  private static void completedLevelForwards() {
    Check.is("high", pendingAfterCompleting(0, 0, 2), 2);
    Check.is("low", pendingAfterCompleting(0, 0, 0), 0);
    Check.is("high between", pendingAfterCompleting(0, 3, 0), 0);
  }

  private static void completedEdgesForward() {
    Check.is("none waits, high", pendingAfterCompleting(2, 0, 2), 0);
    Check.is("none waits, low", pendingAfterCompleting(2, 0, 0), 0);
    Check.is("one waits, low", pendingAfterCompleting(2, 1, 0), 2);
    Check.is("one waits, high", pendingAfterCompleting(2, 1, 2), 2);
    Check.is("15 wait", pendingAfterCompleting(2, 16, 0), 2);
  }

  private static void callsIfAboveTheThreshold() {
    for (int c : CONTEXTS) {
      for (int priority = 0; priority <= 7; priority++) {
        for (int least = 0; least <= 7; least++) {
          TrapHart hart = with(c, 1 << 9);
          hart.store(4 * 9, priority);
          hart.store(threshold(c), least);
          checkCalling(hart, c, priority > least);
        }
      }
    }
  }

  private static void theOtherThresholdDoesNotCount() {
    for (int c : CONTEXTS) {
      TrapHart hart = with(c, 2);
      hart.store(threshold(1 - c), 7);
      checkCalling(hart, c, true);
    }
  }

  private static void servedDoesNotCall() {
    for (int c : CONTEXTS) {
      TrapHart hart = with(c, 2);
      checkCalling(hart, c, true);
      hart.load(claim(c));
      checkCalling(hart, c, false);
      hart.store(claim(c), 1);
      checkCalling(hart, c, true);
    }
  }

  private static void notEnabledDoesNotCall() {
    for (int c : CONTEXTS) {
      TrapHart hart = with(c, 2);
      hart.store(4, 0);
      hart.store(8, 7);
      checkCalling(hart, c, false);
      hart.store(enabled(c), 4);
      checkCalling(hart, c, true);
    }
  }

  private static void theLastSourceCalls() {
    for (int c : CONTEXTS) {
      TrapHart hart = with(c, -1);
      hart.store(threshold(c), 1);
      checkCalling(hart, c, false);
      hart.store(60, 2);
      checkCalling(hart, c, true);
    }
  }

  private static void testAtFirst() {
    String empty = "an ENABLED set of sources, at first empty";
    Check.test(empty, "claims, calls", BoundaryContextsTest::emptyAtFirst);
    Check.test(empty, "completes", BoundaryContextsTest::emptyCompletesNothing);
    Check.test(empty, "full", BoundaryContextsTest::fullClaimsAllFifteenThenNone);
    String threshold = "a THRESHOLD 0 .. 7, at first 0";
    Check.test(threshold, "0", BoundaryContextsTest::thresholdZeroAtFirst);
    Check.test(threshold, "7", BoundaryContextsTest::thresholdSevenSilencesAll);
  }

  private static void testClaims() {
    String of = "of the pending sources that it has enabled";
    Check.test(of, "not pending", BoundaryContextsTest::enabledButNotPending);
    Check.test(of, "not enabled", BoundaryContextsTest::pendingButNotEnabled);
    Check.test(of, "threshold not asked", BoundaryContextsTest::claimIgnoresTheThreshold);
    String zero = "and whose priority isn't 0";
    Check.test(zero, "0 and 1", BoundaryContextsTest::priorityZeroIsNotClaimed);
    String greatest = "the one with the greatest priority";
    Check.test(greatest, "at 15", BoundaryContextsTest::greatestPriorityWhateverTheNumber);
    String least = "of several such the least number";
    Check.test(least, "1 and 15", BoundaryContextsTest::leastNumberOfTheFirstAndTheLast);
    Check.test(least, "neighbours", BoundaryContextsTest::leastNumberOfNeighbours);
    String served = "is no more pending and served by it";
    Check.test(served, "by it alone", BoundaryContextsTest::claimedIsServedAndNoMorePending);
    String none = "without any the claim finds 0";
    Check.test(none, "no change", BoundaryContextsTest::claimOfNoneChangesNothing);
  }

  private static void testCompletes() {
    String number = "It COMPLETES a number: if it is a source";
    Check.test(number, "no source", BoundaryContextsTest::completingWhatIsNoSource);
    Check.test(number, "1 and 15", BoundaryContextsTest::completingTheFirstAndTheLast);
    String enabled = "if it is a source that it has enabled";
    Check.test(enabled, "not enabled", BoundaryContextsTest::completingWhatIsNotEnabled);
    Check.test(enabled, "priority not asked", BoundaryContextsTest::completingAsksNoPriority);
    String served = "and that is served (by whichever context)";
    Check.test(served, "idle", BoundaryContextsTest::completingWhatIsIdle);
    Check.test(served, "pending", BoundaryContextsTest::completingWhatIsPending);
    Check.test(served, "twice", BoundaryContextsTest::completingTwice);
    Check.test(served, "the other's", BoundaryContextsTest::completingWhatTheOtherServes);
    String forwards = "the source is no more served (and forwards, if it can)";
    Check.test(forwards, "of level", BoundaryContextsTest::completedLevelForwards);
    Check.test(forwards, "of edges", BoundaryContextsTest::completedEdgesForward);
  }

  private static void testCalls() {
    String above = "has a priority above its threshold";
    Check.test(above, "less, equal, more", BoundaryContextsTest::callsIfAboveTheThreshold);
    Check.test(above, "its own", BoundaryContextsTest::theOtherThresholdDoesNotCount);
    String pending = "when a pending source that it has enabled";
    Check.test(pending, "served", BoundaryContextsTest::servedDoesNotCall);
    Check.test(pending, "not enabled", BoundaryContextsTest::notEnabledDoesNotCall);
    Check.test(pending, "the last", BoundaryContextsTest::theLastSourceCalls);
  }

  public static void main(String[] args) {
    testAtFirst();
    testClaims();
    testCompletes();
    testCalls();
    Check.end("BoundaryContextsTest");
  }
}
