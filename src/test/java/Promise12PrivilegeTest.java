/** Promise 12: the privilege, by each way that leads to it; asking changes nothing. */
public final class Promise12PrivilegeTest {
  public static void main(String[] args) {
    Check.is("at first", new TrapHart(0).privilege(), 3);
    for (int privilege : new int[] {0, 1, 3}) {
      Check.is("left for it", Harts.at(privilege).privilege(), privilege);
      TrapHart raised = Harts.at(privilege);
      raised.raise(0);
      Check.is("after a trap to the machine", raised.privilege(), 3);
      TrapHart faulty = Harts.at(privilege);
      faulty.access(0, false, 0);
      Check.is("after a fault", faulty.privilege(), 3);
      TrapHart going = Harts.at(privilege);
      going.step();
      going.access(4, false, 0);
      going.lines(-1);
      going.ticks(1);
      Check.is("nothing else changes it", going.privilege(), privilege);
      TrapHart asked = Harts.busy(privilege);
      asked.privilege();
      asked.privilege();
      Check.same("asking", Check.drain(asked), Check.drain(Harts.busy(privilege)));
    }
    TrapHart delegating = new TrapHart(0);
    delegating.write(Harts.DELEGATED_EXCEPTIONS, 1);
    Harts.go(delegating, 0, 0);
    delegating.raise(0);
    Check.is("after a trap to the supervisor", delegating.privilege(), 1);
    delegating.leave(false);
    Check.is("after coming back", delegating.privilege(), 0);
    Check.end("Promise12PrivilegeTest");
  }
}
