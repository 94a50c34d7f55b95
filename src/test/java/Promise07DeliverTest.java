/** Promise 7: deliver takes a message off and answers what the side that gets it says. */
public final class Promise07DeliverTest {
    private static final Due DUE = new Due();

    public static void main(String[] args) {
        takes();
        everyPlace();
        fullLine();
        answers();
        none();
        DUE.end();
    }

    private static void takes() {
        DUE.of("Takes message k of the line (0 the first) off the network, and the server (a call's"
                + " message) or the client (a reply's) gets it.");
        OnceWire x = new OnceWire(0);
        x.field(1, 0, false);
        x.put(0, 6);
        x.call(1);
        x.call(9);
        x.call(2);
        DUE.same("the middle one", x.deliver(1), OnceWire.NOPROCEDURE);
        DUE.same("the reply came to the end", x.flight(), 3);
        DUE.callRecord("first", x, 0, 0, 1, 8, 6);
        DUE.callRecord("second", x, 1, 2, 2, 8, 6);
        DUE.replyRecord("reply", x, 2, 1, 1);
        DUE.same("the first", x.deliver(0), OnceWire.RAN);
        DUE.replyRecord("reply with result", x, 2, 0, 0, 6);
        DUE.yes("copy a reply", x.copy(2));
        DUE.same("the last one", x.deliver(3), OnceWire.ACCEPTED);
        DUE.same("its double", x.deliver(2), OnceWire.STALE);
        DUE.same("the client", x.deliver(1), OnceWire.ACCEPTED);
        DUE.same("status", x.status(1), 1);
        DUE.same("flight", x.flight(), 1);
    }

    /** Of a line with both sides' messages, each goes to its own side, and the others move up. */
    private static void everyPlace() {
        for (int k = 0; k < 6; k++) {
            OnceWire x = new OnceWire(0);
            for (int i = 0; i < 6; i++) {
                x.call(i == 5 ? 9 : 3);
            }
            x.deliver(1);
            x.deliver(2);
            // The line is now: calls 0, 2, 4, 5, replies 1, 3.
            int[] xids = {0, 2, 4, 5, 1, 3};
            int want = k > 3 ? OnceWire.ACCEPTED : k == 3 ? OnceWire.NOPROCEDURE : OnceWire.RAN;
            DUE.same("message " + k, x.deliver(k), want);
            int at = 0;
            for (int i = 0; i < 6; i++) {
                if (i != k) {
                    DUE.same("moved up", x.byteAt(at, 7), xids[i]);
                    DUE.same("call or reply", x.byteAt(at, 11), i > 3 ? 1 : 0);
                    at++;
                }
            }
            DUE.same("flight", x.flight(), k > 3 ? 5 : 6);
        }
    }

    /** The message is off the line before it is answered, so its reply finds room. */
    private static void fullLine() {
        for (int k = 0; k < 16; k++) {
            OnceWire x = new OnceWire(0);
            x.call(3);
            for (int i = 0; i < 15; i++) {
                x.copy(0);
            }
            DUE.same("from a full line", x.deliver(k), OnceWire.RAN);
            DUE.same("still full", x.flight(), 16);
            DUE.replyRecord("reply at the end", x, 15, 0, 0, 0);
            DUE.same("again from a full line", x.deliver(0), OnceWire.AGAIN);
            DUE.same("still full", x.flight(), 16);
            DUE.replyRecord("reply at the end", x, 15, 0, 0, 0);
            DUE.same("the client", x.deliver(14), OnceWire.ACCEPTED);
            DUE.same("the client sends nothing", x.flight(), 15);
        }
    }

    private static void answers() {
        DUE.of("Answers what it says (see above);");
        OnceWire x = new OnceWire(1);
        x.field(1, 0, false);
        x.call(1);
        x.call(4);
        x.call(1);
        x.copy(0);
        x.copy(1);
        DUE.same("run", x.deliver(0), OnceWire.RAN);
        DUE.same("no procedure", x.deliver(0), OnceWire.NOPROCEDURE);
        x.field(2, 0, false);
        DUE.same("garbage", x.deliver(0), OnceWire.GARBAGE);
        DUE.same("again", x.deliver(0), OnceWire.AGAIN);
        DUE.same("again", x.deliver(0), OnceWire.AGAIN);
        int[] said = {OnceWire.ACCEPTED, OnceWire.ACCEPTED, OnceWire.ACCEPTED, OnceWire.STALE, OnceWire.STALE};
        for (int want : said) {
            DUE.same("reply", x.deliver(0), want);
        }
        int[] statuses = {0, 1, 2};
        for (int xid = 0; xid < 3; xid++) {
            DUE.same("status", x.status(xid), statuses[xid]);
        }
    }

    private static void none() {
        DUE.of("NONE when there is no such message.");
        int[] nowhere = {-1, 5, 6, 16, 17, Integer.MIN_VALUE, Integer.MAX_VALUE};
        for (int k : nowhere) {
            DUE.same("message " + k + " of none", new OnceWire(0).deliver(k), OnceWire.NONE);
            DUE.same("message " + k + " of five", Pasts.busy(0).deliver(k), OnceWire.NONE);
            new Trace(() -> Pasts.busy(0)).none(DUE, "message " + k, x -> x.deliver(k));
        }
        DUE.same("message 0 of none", new OnceWire(0).deliver(0), OnceWire.NONE);
        DUE.same("message 4 of five", Pasts.busy(0).deliver(4), OnceWire.STALE);
        int[] beside = {-1, 16, Integer.MIN_VALUE, Integer.MAX_VALUE};
        for (int k : beside) {
            DUE.same("message " + k + " of sixteen", Pasts.crammed(0).deliver(k), OnceWire.NONE);
            new Trace(() -> Pasts.crammed(0)).none(DUE, "message " + k, x -> x.deliver(k));
        }
        DUE.no("message 15 of sixteen", Pasts.crammed(0).deliver(15) == OnceWire.NONE);
    }
}
