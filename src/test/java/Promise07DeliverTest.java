/** Promise 7: deliver takes a message off and answers what the side that gets it says. */
public final class Promise07DeliverTest {
    public static void main(String[] args) {
        Due due = new Due();
        OnceWire x = new OnceWire(0);
        int[] none = {0, -1, 16, Integer.MIN_VALUE, Integer.MAX_VALUE};
        for (int k : none) {
            due.same("deliver " + k, x.deliver(k), OnceWire.NONE);
        }
        x.field(1, 0, false);
        x.put(0, 6);
        x.call(1);
        x.call(9);
        x.call(2);
        due.same("behind the last", x.deliver(3), OnceWire.NONE);
        due.same("before the first", x.deliver(-1), OnceWire.NONE);
        due.same("the middle one", x.deliver(1), OnceWire.NOPROCEDURE);
        due.same("the reply came to the end", x.flight(), 3);
        due.callRecord("first", x, 0, 0, 1, 8, 6);
        due.callRecord("second", x, 1, 2, 2, 8, 6);
        due.bytes("reply", x, 2, Wire.message(Wire.record(1, 1, 1)));
        due.same("first", x.deliver(0), OnceWire.RAN);
        due.bytes("reply with result", x, 2, Wire.message(Wire.record(0, 1, 0, 0, 0, 0, 6)));
        due.yes("copy a reply", x.copy(2));
        due.same("the last one", x.deliver(3), OnceWire.ACCEPTED);
        due.same("stale", x.deliver(2), OnceWire.STALE);
        due.same("the client", x.deliver(1), OnceWire.ACCEPTED);
        due.same("status", x.status(1), 1);
        due.same("flight", x.flight(), 1);
        due.yes("copy a call", x.copy(0));
        due.same("ran", x.deliver(0), OnceWire.RAN);
        due.same("again", x.deliver(0), OnceWire.AGAIN);
        due.same("two replies", x.flight(), 2);
        due.same("ran twice in all", x.runs(), 2);
        due.same("the reply sent again goes to the client", x.deliver(1), OnceWire.ACCEPTED);
        due.same("the first one then is stale", x.deliver(0), OnceWire.STALE);
        fullLine(due);
        due.end();
    }

    /** The message is off the line before it is answered, so its reply finds room. */
    private static void fullLine(Due due) {
        OnceWire x = new OnceWire(0);
        x.call(3);
        for (int i = 0; i < 15; i++) {
            x.copy(0);
        }
        due.same("from a full line", x.deliver(15), OnceWire.RAN);
        due.same("still full", x.flight(), 16);
        due.bytes("reply at the end", x, 15, Wire.message(Wire.record(0, 1, 0, 0, 0, 0, 0)));
        due.same("again from a full line", x.deliver(0), OnceWire.AGAIN);
        due.same("still full", x.flight(), 16);
        due.same("the client", x.deliver(14), OnceWire.ACCEPTED);
    }
}
