/** Promise 1: which sources are of edges, and all that holds at first. */
public final class Promise01NewObjectTest {
  private static void testAtFirst() {
    for (int edges : new int[] {0, 0x1234, -1, Integer.MIN_VALUE}) {
      TrapHart hart = new TrapHart(edges);
      Check.is("privilege", hart.privilege(), 3);
      Check.is("pc", hart.pc(), 0);
      Check.is("due", hart.due(), -1);
      for (int s = 1; s <= 15; s++) {
        Check.is("source " + s, hart.source(s), 0);
        Check.is("priority " + s, hart.load(4 * s), 0);
      }
      for (int address : new int[] {64, 128, 132, 136, 144, 148, 152, 192, 204, 208}) {
        Check.is("word " + address, hart.load(address), 0);
      }
      Check.is("lower half of COMPARE", hart.load(196), -1);
      Check.is("higher half of COMPARE", hart.load(200), -1);
      for (int register : Harts.MACHINES) {
        Check.is("register " + register, hart.read(register), 0);
      }
      for (int register : Harts.SUPERVISORS) {
        Check.is("register " + register, hart.read(register), 0);
      }
      Check.is("no line is high", hart.lines(0), 0);
    }
  }

  /** Two rises: a source of edges has one waiting behind the pending one, one of level has none. */
  private static void testWhichAreOfEdges(int edges) {
    TrapHart hart = new TrapHart(edges);
    hart.lines(-1);
    hart.lines(0);
    hart.lines(-1);
    for (int s = 1; s <= 15; s++) {
      int due = (edges >> s & 1) != 0 ? 4 : 0;
      Check.is("edges " + edges + ", source " + s, hart.source(s), due);
    }
  }

  private static void testObjectsAreApart() {
    TrapHart one = new TrapHart(2);
    TrapHart other = new TrapHart(0);
    one.lines(2);
    one.store(4, 5);
    one.write(834, 9);
    Check.is("pending of the other", other.load(64), 0);
    Check.is("priority of the other", other.load(4), 0);
    Check.is("cause of the other", other.read(834), 0);
  }

  public static void main(String[] args) {
    testAtFirst();
    for (int s = 0; s <= 31; s++) {
      testWhichAreOfEdges(1 << s);
      testWhichAreOfEdges(~(1 << s));
    }
    testWhichAreOfEdges(0);
    testWhichAreOfEdges(-1);
    testObjectsAreApart();
    Check.end("Promise01NewObjectTest");
  }
}
