/** The example of README.md. */
public final class Example {
  public static void main(String[] args) {
    TrapHart hart = new TrapHart(1 << 2); // source 2 is of edges, all others are of level

    // Source 1 interrupts the machine, which claims it and completes it.
    hart.store(4 * 1, 3); // source 1 has priority 3
    hart.store(128, 1 << 1); // context 0 (the machine's) has source 1 enabled
    hart.write(772, 1 << 11); // the machine's external interrupt is enabled
    hart.write(773, 0x1001); // VECTOR: 0x1000, with a place of its own for each interrupt
    hart.write(768, 1 << 3); // STATUS: M is 1
    hart.step();
    say("pending sources", hart.lines(1 << 1));
    say("interrupt due", hart.due());
    say("interrupt taken", hart.step());
    say("pc in the machine's trap", hart.pc());
    say("claimed", hart.load(136));
    hart.lines(0);
    hart.store(136, 1); // context 0 completes source 1
    say("privilege after the trap", hart.leave(true));
    say("pc after the trap", hart.pc());

    // A user's exception goes to the supervisor, to whom it is delegated.
    hart.write(770, 1 << 5); // exception 5 is delegated
    hart.write(261, 0x2000); // the supervisor's VECTOR
    hart.write(768, 0); // STATUS: the privilege before is 0
    hart.write(833, 0x400); // RETURN
    say("privilege of the user", hart.leave(true));
    say("access to an absent address", hart.access(0, false, 0));
    say("privilege in the supervisor's trap", hart.privilege());
    say("cause", hart.read(322));

    // What is refused changes nothing.
    try {
      hart.write(768, 1 << 3);
    } catch (IllegalStateException e) {
      say("pc after a refused write", hart.pc());
    }
  }

  private static void say(String what, long answer) {
    System.out.println(what + ": " + answer);
  }
}
