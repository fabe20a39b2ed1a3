import java.util.NoSuchElementException;
import java.util.function.Consumer;

/** The promises, call by call: the boundaries of their arguments and answers. */
public final class BoundaryCallsTest {
  private static final int LEAST = Integer.MIN_VALUE;
  private static final int GREATEST = Integer.MAX_VALUE;
  private static final int[] PRIVILEGES = {0, 1, 3};

  private static void checkRefused(
      String what,
      Class<? extends RuntimeException> kind,
      int[] privileges,
      Consumer<TrapHart> call) {
    for (int privilege : privileges) {
      String where = what + " in privilege " + privilege;
      Check.refuses(where, kind, () -> Harts.busy(privilege), call);
    }
  }

  /** Which sources are of edges: those alone have one waiting after two rises. */
  private static void checkEdges(int edges, int due) {
    TrapHart hart = new TrapHart(edges);
    hart.lines(-1);
    hart.lines(0);
    hart.lines(-1);
    for (int s = 1; s <= 15; s++) {
      Check.is("source " + s, hart.source(s), (due >> s & 1) * 4);
    }
  }

  private static void checkLines(int set, int due) {
    Check.is("of level", new TrapHart(0).lines(set), due);
    Check.is("of edges", new TrapHart(-1).lines(set), due);
  }

  private static void aNewHart() {
    for (int edges : new int[] {0, -1, LEAST, GREATEST}) {
      TrapHart hart = new TrapHart(edges);
      Check.is("privilege", hart.privilege(), 3);
      Check.is("PC", hart.pc(), 0);
      Check.is("due", hart.due(), -1);
    }
  }

  private static void privilegesAreThree() {
    for (int privilege : PRIVILEGES) {
      Check.is("left for", Harts.at(privilege).privilege(), privilege);
    }
    TrapHart two = new TrapHart(0);
    two.write(Harts.STATUS, 2 << 11);
    Check.is("2 is none", two.leave(true), 0);
  }

  private static void sameLinesAreNoEdges() {
    TrapHart hart = new TrapHart(2);
    hart.lines(2);
    hart.lines(2);
    hart.lines(2);
    Check.is("high and high", hart.source(1), 0);
    hart.lines(0);
    hart.lines(0);
    Check.is("low and low", hart.source(1), 0);
    hart.lines(2);
    Check.is("low and high", hart.source(1), 4);
    hart.lines(0);
    Check.is("high and low", hart.source(1), 4);
  }

  private static void otherLinesAreLow() {
    TrapHart hart = new TrapHart(6);
    hart.lines(2);
    hart.lines(4);
    hart.lines(2);
    Check.is("1 fell and rose", hart.source(1), 4);
    Check.is("2 fell", hart.source(2), 0);
  }

  /** Only a pending or a served source can have 15 waiting, so the call can't forward one first. */
  private static void edgesAreFull() {
    TrapHart hart = new TrapHart(2);
    for (int edge = 1; edge <= 16; edge++) {
      hart.lines(2);
      hart.lines(0);
    }
    Check.is("15 wait", hart.source(1), 60);
    Check.is("pending", hart.lines(2), 2);
    Check.is("15 wait still", hart.source(1), 60);
  }

  private static void linesAnswersAfterForwarding() {
    TrapHart hart = new TrapHart(2);
    Check.is("edges", hart.lines(2), 2);
    Check.is("and level", hart.lines(4), 6);
    Check.is("as word 64 does", hart.load(64), 6);
  }

  private static void linesThenForward() {
    TrapHart hart = new TrapHart(2);
    hart.lines(2);
    Check.is("the edge was counted and forwarded", hart.source(1), 0);
    Check.is("pending", hart.load(64), 2);
  }

  private static void accessAnswers() {
    long[] answers = {
      new TrapHart(0).access(1, false, 0),
      new TrapHart(0).access(0, false, 0),
      new TrapHart(0).access(1, true, 0),
      new TrapHart(0).access(0, true, 0),
      new TrapHart(0).access(64, true, 0)
    };
    long[] due = {-5, -6, -7, -8, -8};
    for (int i = 0; i < due.length; i++) {
      Check.is("answer " + i, answers[i], due[i]);
    }
  }

  private static void checkAccessTrap(int address, boolean write, int cause) {
    for (int privilege : PRIVILEGES) {
      for (int delegated : new int[] {0, 1 << cause, ~(1 << cause), -1}) {
        TrapHart hart = new TrapHart(0);
        hart.write(Harts.DELEGATED_EXCEPTIONS, delegated);
        hart.write(Harts.VECTOR, 0x101);
        hart.write(Harts.S_VECTOR, 0x201);
        Harts.go(hart, privilege, 0x44);
        Check.is("answer", hart.access(address, write, -1), -1L - cause);
        boolean supervisor = privilege != 3 && (delegated >> cause & 1) != 0;
        Check.is("privilege", hart.privilege(), supervisor ? 1 : 3);
        Check.is("PC", hart.pc(), supervisor ? 0x200 : 0x100);
        Check.is("CAUSE", hart.read(supervisor ? Harts.S_CAUSE : Harts.CAUSE), cause);
        Check.is("RETURN", hart.read(supervisor ? Harts.S_RETURN : Harts.RETURN), 0x44);
      }
    }
  }

  private static void checkAccessTraps(boolean write, int cause, int... addresses) {
    for (int address : addresses) {
      checkAccessTrap(address, write, cause);
    }
  }

  private static void accessWithoutSign() {
    TrapHart hart = new TrapHart(0);
    int[] values = {0, 1, GREATEST, LEAST, -1};
    long[] due = {0L, 1L, 0x7FFFFFFFL, 0x80000000L, 0xFFFFFFFFL};
    for (int i = 0; i < values.length; i++) {
      Check.is("written " + values[i], hart.access(204, true, values[i]), 0L);
      Check.is("read", hart.access(204, false, 0), due[i]);
    }
  }

  private static void accessOfClaims() {
    TrapHart hart = new TrapHart(0);
    Check.is("none to claim", hart.access(136, false, 0), 0L);
    Check.is("none to complete", hart.access(136, true, 0), 0L);
    Check.is("PC", hart.pc(), 8);
    hart.store(60, 1);
    hart.store(128, 1 << 15);
    hart.lines(1 << 15);
    Check.is("the last", hart.access(136, false, 0), 15L);
    Check.is("completed", hart.access(136, true, 15), 0L);
    Check.is("no more served", hart.source(15), 0);
  }

  private static void accessWrapsThePc() {
    for (boolean write : new boolean[] {false, true}) {
      TrapHart hart = Harts.go(new TrapHart(0), 0, -4);
      hart.access(4, write, 0);
      Check.is("PC", hart.pc(), 0);
    }
  }

  private static void accessTrapLeavesTheWords() {
    for (int privilege : PRIVILEGES) {
      TrapHart trapped = Harts.busy(privilege);
      TrapHart raised = Harts.busy(privilege);
      Check.is("fixed", trapped.access(64, true, -1), -8L);
      raised.raise(7);
      Check.same("as by raise", Check.drain(trapped), Check.drain(raised));
    }
  }

  private static void accessTakesNoInterrupt() {
    TrapHart hart = new TrapHart(0);
    hart.store(192, 1);
    hart.write(Harts.ENABLED, 8);
    hart.write(Harts.STATUS, 8);
    Check.is("due", hart.due(), 3);
    Check.is("read", hart.access(192, false, 0), 1L);
    Check.is("PC", hart.pc(), 4);
    Check.is("still due", hart.due(), 3);
  }

  private static void stepWraps() {
    TrapHart hart = Harts.go(new TrapHart(0), 0, -4);
    Check.is("none due", hart.step(), -1);
    Check.is("PC", hart.pc(), 0);
    TrapHart sign = Harts.go(new TrapHart(0), 0, 0x7FFFFFFC);
    sign.step();
    Check.is("PC over the sign", sign.pc(), LEAST);
  }

  private static void stepByTrapDoesNotGrow() {
    TrapHart hart = new TrapHart(0);
    hart.write(Harts.PENDING, 2);
    hart.write(Harts.ENABLED, 2);
    hart.write(Harts.STATUS, 8);
    hart.write(Harts.VECTOR, 0x100);
    Check.is("the one taken", hart.step(), 1);
    Check.is("PC", hart.pc(), 0x100);
    Check.is("RETURN", hart.read(Harts.RETURN), 0);
  }

  private static void stepAnswersEachNumber() {
    for (int interrupt : new int[] {1, 5, 9}) {
      TrapHart hart = new TrapHart(0);
      hart.write(Harts.PENDING, 1 << interrupt);
      hart.write(Harts.ENABLED, 1 << interrupt);
      hart.write(Harts.STATUS, 8);
      Check.is("step", hart.step(), interrupt);
      Check.is("M is 0 then", hart.step(), -1);
    }
  }

  private static void raiseAnswersThePrivilegeThen() {
    for (int privilege : PRIVILEGES) {
      Check.is("machine's", Harts.at(privilege).raise(15), 3);
      TrapHart hart = new TrapHart(0);
      hart.write(Harts.DELEGATED_EXCEPTIONS, 1 << 15);
      Check.is("delegated", Harts.go(hart, privilege, 0).raise(15), privilege == 3 ? 3 : 1);
    }
  }

  private static void checkRaised(int... causes) {
    for (int cause : causes) {
      TrapHart hart = new TrapHart(0);
      Check.is("raise(" + cause + ")", hart.raise(cause), 3);
      Check.is("CAUSE", hart.read(Harts.CAUSE), cause);
    }
  }

  private static void checkNotRaised(int... causes) {
    for (int cause : causes) {
      checkRefused(
          "raise(" + cause + ")",
          IllegalArgumentException.class,
          PRIVILEGES,
          hart -> hart.raise(cause));
    }
  }

  private static void leaveForEach() {
    for (int before : PRIVILEGES) {
      TrapHart hart = new TrapHart(0);
      hart.write(Harts.STATUS, before << 11);
      Check.is("answer", hart.leave(true), before);
      Check.is("privilege", hart.privilege(), before);
    }
    for (int before : new int[] {0, 1}) {
      TrapHart hart = new TrapHart(0);
      hart.write(Harts.STATUS, before << 8);
      Check.is("supervisor's answer", hart.leave(false), before);
      Check.is("privilege", hart.privilege(), before);
    }
  }

  private static void leaveOfANewHart() {
    TrapHart machine = new TrapHart(0);
    machine.step();
    Check.is("machine's", machine.leave(true), 0);
    Check.is("PC", machine.pc(), 0);
    TrapHart supervisor = new TrapHart(0);
    supervisor.step();
    Check.is("supervisor's", supervisor.leave(false), 0);
    Check.is("PC", supervisor.pc(), 0);
  }

  private static void leaveMachinesBits() {
    for (int m : new int[] {0, 8}) {
      for (int old : new int[] {0, 0x80}) {
        TrapHart hart = new TrapHart(0);
        hart.write(Harts.STATUS, m | old | 3 << 11 | 0x122);
        hart.leave(true);
        Check.is("M " + m + ", old " + old, hart.read(Harts.STATUS), old >> 4 | 0x80 | 0x122);
      }
    }
  }

  private static void leaveSupervisorsBits() {
    for (int s : new int[] {0, 2}) {
      for (int old : new int[] {0, 0x20}) {
        TrapHart hart = new TrapHart(0);
        hart.write(Harts.STATUS, s | old | 1 << 8);
        hart.leave(false);
        Check.is("S " + s + ", old " + old, hart.read(Harts.S_STATUS), old >> 4 | 0x20);
      }
    }
  }

  /** From 3 by the supervisor's way: M, old M and bits 11 and 12 stay, as the next trap shows. */
  private static void leaveFromMachineByTheSupervisors() {
    TrapHart hart = new TrapHart(0);
    hart.write(Harts.STATUS, 8);
    hart.write(Harts.RETURN, 0x300);
    hart.write(Harts.S_RETURN, 0x400);
    Check.is("answer", hart.leave(false), 0);
    Check.is("PC", hart.pc(), 0x400);
    hart.raise(0);
    Check.is("M was kept", hart.read(Harts.STATUS), 0xA0);
  }

  private static void leaveTakesItsOwnReturn() {
    for (int address : new int[] {0, -1, LEAST, 0x7FFFFFFF}) {
      TrapHart machine = new TrapHart(0);
      machine.write(Harts.RETURN, address);
      machine.write(Harts.S_RETURN, 0x55550);
      machine.leave(true);
      Check.is("machine's", machine.pc(), address & ~3);
      TrapHart supervisor = new TrapHart(0);
      supervisor.write(Harts.RETURN, 0x55550);
      supervisor.write(Harts.S_RETURN, address);
      supervisor.leave(false);
      Check.is("supervisor's", supervisor.pc(), address & ~3);
    }
  }

  private static void noneIsDue() {
    for (int privilege : PRIVILEGES) {
      Check.is("privilege " + privilege, Harts.at(privilege).due(), -1);
    }
  }

  private static void dueIsWhatStepTakes() {
    for (int privilege : PRIVILEGES) {
      TrapHart hart = Harts.busy(privilege);
      int due = hart.due();
      Check.is("asked again", hart.due(), due);
      Check.is("step", hart.step(), due);
    }
  }

  private static void askingChangesNothing() {
    for (int privilege : PRIVILEGES) {
      TrapHart hart = Harts.busy(privilege);
      hart.due();
      hart.privilege();
      hart.pc();
      hart.source(1);
      hart.source(15);
      Check.same("as before", Check.drain(hart), Check.drain(Harts.busy(privilege)));
    }
  }

  private static void checkSourceRefused(int... sources) {
    for (int s : sources) {
      checkRefused(
          "source(" + s + ")",
          IndexOutOfBoundsException.class,
          PRIVILEGES,
          hart -> hart.source(s));
    }
  }

  /** The least and the greatest sums: nothing, and 15 edges behind one served by context 1. */
  private static void checkSums(int s) {
    TrapHart hart = new TrapHart(1 << s);
    Check.is("nothing", hart.source(s), 0);
    hart.store(4 * s, 1);
    hart.store(144, 1 << s);
    for (int edge = 1; edge <= 16; edge++) {
      hart.lines(1 << s);
      hart.lines(0);
    }
    Check.is("15 wait", hart.source(s), 60);
    hart.load(152);
    Check.is("and context 1 serves", hart.source(s), 62);
  }

  private static void servedByEach() {
    for (int c = 0; c <= 1; c++) {
      TrapHart hart = new TrapHart(0);
      hart.store(4, 1);
      hart.store(128 + 16 * c, 2);
      hart.lines(2);
      Check.is("not served", hart.source(1), 0);
      hart.load(136 + 16 * c);
      Check.is("served by " + c, hart.source(1), 1 + c);
      hart.lines(0);
      hart.store(136 + 16 * c, 1);
      Check.is("completed", hart.source(1), 0);
    }
  }

  private static void checkLastCall() {
    TrapHart steps = new TrapHart(0);
    for (int call = 1; call <= 511; call++) {
      Check.is("step", steps.step(), -1);
    }
    Check.is("the 512th", steps.pc(), 4 * 511);
    TrapHart edges = new TrapHart(2);
    for (int call = 1; call <= 511; call++) {
      edges.lines(call % 2 * 2);
    }
    Check.is("the 512th", edges.source(1), 60);
    TrapHart time = new TrapHart(0);
    for (int call = 1; call <= 511; call++) {
      time.ticks(GREATEST);
    }
    Check.is("the 512th", time.load(208), (int) (511L * GREATEST >>> 32));
  }

  /** A refused call is one of the 512 too, and leaves the next as it was. */
  private static void refusedAgainAndAgain() {
    TrapHart hart = Harts.at(0);
    int refused = 0;
    for (int call = 1; call <= 100; call++) {
      try {
        hart.read(Harts.STATUS);
      } catch (IllegalStateException e) {
        refused++;
      }
      try {
        hart.write(0, 0);
      } catch (NoSuchElementException e) {
        refused++;
      }
      try {
        hart.leave(true);
      } catch (IllegalStateException e) {
        refused++;
      }
    }
    Check.is("refused", refused, 300);
    Check.same("as before", Check.drain(hart), Check.drain(Harts.at(0)));
  }

  private static void testMakingAndLines() {
    String privilege = "PRIVILEGE is 0 user, 1 supervisor or 3 machine, at first 3";
    Check.test(privilege, "new", BoundaryCallsTest::aNewHart);
    Check.test(privilege, "2 is none", BoundaryCallsTest::privilegesAreThree);
    String edges = "Sources s of which bit s (1 .. 15) of edges is 1 are of edges";
    Check.test(edges, "none", () -> checkEdges(0, 0));
    Check.test(edges, "all", () -> checkEdges(-1, 0xFFFE));
    Check.test(edges, "bit 0", () -> checkEdges(1, 0));
    Check.test(edges, "bit 1", () -> checkEdges(2, 2));
    Check.test(edges, "bit 15", () -> checkEdges(1 << 15, 1 << 15));
    Check.test(edges, "bit 16", () -> checkEdges(1 << 16, 0));
    Check.test(edges, "bit 31", () -> checkEdges(LEAST, 0));
    String lines = "become high where bit s of set is 1 and low where it is 0";
    Check.test(lines, "none", () -> checkLines(0, 0));
    Check.test(lines, "all", () -> checkLines(-1, 0xFFFE));
    Check.test(lines, "bit 0", () -> checkLines(1, 0));
    Check.test(lines, "bit 1", () -> checkLines(2, 2));
    Check.test(lines, "bit 15", () -> checkLines(1 << 15, 1 << 15));
    Check.test(lines, "bit 16", () -> checkLines(1 << 16, 0));
    Check.test(lines, "bit 31", () -> checkLines(LEAST, 0));
    Check.test(lines, "low again", BoundaryCallsTest::otherLinesAreLow);
    String rise = "One of edges whose line was low and is high now waits for one edge more";
    Check.test(rise, "the same lines", BoundaryCallsTest::sameLinesAreNoEdges);
    Check.test("if they aren't 15", "full", BoundaryCallsTest::edgesAreFull);
    Check.test("(Then sources forward.)", "the first edge", BoundaryCallsTest::linesThenForward);
    String answer = "Answers the set of the pending sources";
    Check.test(answer, "after forwarding", BoundaryCallsTest::linesAnswersAfterForwarding);
  }

  private static void testAccess() {
    String word = "Answers the word, without sign (0 when it was written)";
    Check.test(word, "bit 31", BoundaryCallsTest::accessWithoutSign);
    Check.test(word, "claims", BoundaryCallsTest::accessOfClaims);
    Check.test("and the PC grows by 4", "it wraps", BoundaryCallsTest::accessWrapsThePc);
    Check.test("and the PC grows by 4", "interrupts", BoundaryCallsTest::accessTakesNoInterrupt);
    String four = "cause 4 for a wrong address in reading";
    Check.test(four, "wrong", () -> checkAccessTraps(false, 4, 5, 6, 7, -1, GREATEST));
    Check.test(four, "wrong and absent", () -> checkAccessTraps(false, 4, 1, 2, 3, 141, 213));
    String five = "5 for an absent one";
    Check.test(five, "absent", () -> checkAccessTraps(false, 5, 0, 68, 140, 156, 212, -4, LEAST));
    String six = "6 for a wrong one in writing";
    Check.test(six, "wrong", () -> checkAccessTraps(true, 6, 5, 6, 7, -1, GREATEST));
    Check.test(six, "wrong and absent", () -> checkAccessTraps(true, 6, 1, 2, 3, 141, 213));
    Check.test(six, "beside the fixed", () -> checkAccessTraps(true, 6, 63, 65, 66, 67));
    String seven = "7 for one absent or fixed";
    Check.test(seven, "absent", () -> checkAccessTraps(true, 7, 0, 68, 140, 156, 212, -4, LEAST));
    Check.test(seven, "fixed", () -> checkAccessTraps(true, 7, 64));
    Check.test("answers -1 - cause", "each", BoundaryCallsTest::accessAnswers);
    String instead = "there is a trap instead";
    Check.test(instead, "no word changes", BoundaryCallsTest::accessTrapLeavesTheWords);
  }

  private static void testStepAndRaise() {
    Check.test("Otherwise the PC grows by 4", "it wraps", BoundaryCallsTest::stepWraps);
    String trap = "there is a trap by the one that is taken";
    Check.test(trap, "not 4 more", BoundaryCallsTest::stepByTrapDoesNotGrow);
    Check.test("answers its number", "each", BoundaryCallsTest::stepAnswersEachNumber);
    String then = "Answers the privilege then";
    Check.test(then, "raise", BoundaryCallsTest::raiseAnswersThePrivilegeThen);
    String causes = "IllegalArgumentException if cause is not 0 .. 9, 11, 12, 13 or 15";
    Check.test(causes, "0 and 9", () -> checkRaised(0, 9));
    Check.test(causes, "1 .. 8", () -> checkRaised(1, 2, 3, 4, 5, 6, 7, 8));
    Check.test(causes, "11, 12, 13 and 15", () -> checkRaised(11, 12, 13, 15));
    Check.test(causes, "below 0", () -> checkNotRaised(-1, -2, -32, -31, LEAST));
    Check.test(causes, "10", () -> checkNotRaised(10));
    Check.test(causes, "14", () -> checkNotRaised(14));
    Check.test(causes, "above 15", () -> checkNotRaised(16, 17, 31, 32, 33, 64, GREATEST));
    Check.test(causes, "with bit 31", () -> checkNotRaised(LEAST | 1, LEAST | 11));
  }

  private static void testLeave() {
    String becomes = "the privilege becomes what bits 11 and 12 (or bit 8) of STATUS say";
    Check.test(becomes, "each", BoundaryCallsTest::leaveForEach);
    Check.test(becomes, "new", BoundaryCallsTest::leaveOfANewHart);
    String old = "M becomes old M (S old S), old M (old S) 1, bits 11 and 12 (bit 8) 0";
    Check.test(old, "M", BoundaryCallsTest::leaveMachinesBits);
    Check.test(old, "S", BoundaryCallsTest::leaveSupervisorsBits);
    Check.test(old, "S in 3", BoundaryCallsTest::leaveFromMachineByTheSupervisors);
    String pc = "and the PC the RETURN of that";
    Check.test(pc, "its own", BoundaryCallsTest::leaveTakesItsOwnReturn);
    String machines = "IllegalStateException if the privilege is not 3 for the machine's";
    Class<IllegalStateException> kind = IllegalStateException.class;
    Consumer<TrapHart> machine = hart -> hart.leave(true);
    Consumer<TrapHart> supervisor = hart -> hart.leave(false);
    Check.test(machines, "0", () -> checkRefused("leave(true)", kind, new int[] {0}, machine));
    Check.test(machines, "1", () -> checkRefused("leave(true)", kind, new int[] {1}, machine));
    String user = "or 0 for the supervisor's";
    Check.test(user, "0", () -> checkRefused("leave(false)", kind, new int[] {0}, supervisor));
    Check.test(user, "1", () -> Check.is("leave", Harts.at(1).leave(false), 0));
    Check.test(user, "3", () -> Check.is("leave", Harts.at(3).leave(false), 0));
  }

  private static void testQuestions() {
    Check.test("-1 if none is due", "none", BoundaryCallsTest::noneIsDue);
    String would = "The number of the interrupt that step() would take";
    Check.test(would, "it does", BoundaryCallsTest::dueIsWhatStepTakes);
    Check.test(would, "no change", BoundaryCallsTest::askingChangesNothing);
    String sources = "IndexOutOfBoundsException if s is not 1 .. 15";
    Check.test(sources, "0", () -> checkSourceRefused(0));
    Check.test(sources, "below 0", () -> checkSourceRefused(-1, -15, LEAST));
    Check.test(sources, "16", () -> checkSourceRefused(16));
    Check.test(sources, "above", () -> checkSourceRefused(17, 32, 33, GREATEST));
    String more = "1 more than the context that serves it";
    Check.test(more, "none, 0 and 1", BoundaryCallsTest::servedByEach);
    String sum = "The sum of 4 times the edges that are waiting at source s";
    Check.test(sum, "least and greatest at 1", () -> checkSums(1));
    Check.test(sum, "least and greatest at 15", () -> checkSums(15));
  }

  private static void testAllCalls() {
    String most = "An object is used for at most 512 calls after it has been made";
    Check.test(most, "the last of them", BoundaryCallsTest::checkLastCall);
    String nothing = "A call that throws changes nothing";
    Check.test(nothing, "many", BoundaryCallsTest::refusedAgainAndAgain);
  }

  public static void main(String[] args) {
    testMakingAndLines();
    testAccess();
    testStepAndRaise();
    testLeave();
    testQuestions();
    testAllCalls();
    Check.end("BoundaryCallsTest");
  }
}
