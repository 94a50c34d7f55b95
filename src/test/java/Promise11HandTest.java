/** Promise 11: hand gives the draft bytes to one side, past the network, and empties them. */
public final class Promise11HandTest {
    public static void main(String[] args) {
        Due due = new Due();
        OnceWire x = new OnceWire(0);
        due.same("no bytes to the server", x.hand(true), OnceWire.BROKEN);
        due.same("no bytes to the client", x.hand(false), OnceWire.BROKEN);
        int[] call = Wire.message(Wire.record(0, 0, 3));
        due.same("a call to the server", Wire.hand(x, true, call), OnceWire.RAN);
        due.same("the bytes are none then", x.hand(true), OnceWire.BROKEN);
        due.same("a call to the client", Wire.hand(x, false, call), OnceWire.WRONG);
        due.same("the bytes are none then", x.hand(true), OnceWire.BROKEN);
        x.add(1);
        due.same("broken", x.hand(true), OnceWire.BROKEN);
        due.same("none left of broken ones", Wire.hand(x, true, call), OnceWire.AGAIN);
        int[] reply = Wire.message(Wire.record(0, 1, 0, 0, 0, 0, 7));
        due.same("a reply to the server", Wire.hand(x, true, reply), OnceWire.WRONG);
        due.same("a reply to no call", Wire.hand(x, false, reply), OnceWire.STALE);
        x.call(3);
        due.same("a reply to the client", Wire.hand(x, false, reply), OnceWire.ACCEPTED);
        due.same("result", x.result(0), 7);
        due.same("only the server's replies and the call went out", x.flight(), 3);
        fullNetwork(due);
        due.end();
    }

    /** A reply that is lost at once is remembered all the same. */
    private static void fullNetwork(Due due) {
        OnceWire x = new OnceWire(0);
        x.field(1, 0, false);
        x.call(0);
        while (x.copy(0)) {
            due.yes("no more than sixteen", x.flight() <= 16);
        }
        due.same("run", Wire.handCall(x, 9, 1, 8, 5), OnceWire.RAN);
        due.same("flight", x.flight(), 16);
        due.same("again", Wire.handCall(x, 9, 1, 8, 5), OnceWire.AGAIN);
        due.same("ran once", x.total(), 5);
        x.lose(0);
        due.same("again", Wire.handCall(x, 9, 0), OnceWire.AGAIN);
        due.bytes("the reply", x, 15, Wire.message(Wire.record(9, 1, 0, 0, 0, 0, 5)));
    }
}
