/** Promise 11: hand gives the draft bytes to one side, past the network, and empties them. */
public final class Promise11HandTest {
    private static final Due DUE = new Due();
    private static final int[] CALL = Wire.message(Wire.record(0, 0, 3));
    private static final int[] REPLY = Wire.message(Wire.record(0, 1, 0, 0, 0, 0, 7));

    public static void main(String[] args) {
        sides();
        pastTheNetwork();
        noBytesThen();
        noBytes();
        answers();
        DUE.end();
    }

    private static void sides() {
        DUE.of("The server, or else the client, gets a message of the draft bytes,");
        OnceWire x = new OnceWire(0);
        x.call(3);
        DUE.same("a call to the server", Wire.hand(x, true, CALL), OnceWire.RAN);
        DUE.same("a call to the client", Wire.hand(x, false, CALL), OnceWire.WRONG);
        DUE.same("a reply to the server", Wire.hand(x, true, REPLY), OnceWire.WRONG);
        DUE.same("it is not accepted there", x.status(0), OnceWire.PENDING);
        DUE.same("a reply to the client", Wire.hand(x, false, REPLY), OnceWire.ACCEPTED);
        DUE.same("result", x.result(0), 7);
    }

    /** Only what the server sends comes to the network; the message itself never does. */
    private static void pastTheNetwork() {
        OnceWire x = new OnceWire(0);
        x.call(3);
        Wire.hand(x, true, CALL);
        DUE.same("the call and a reply", x.flight(), 2);
        DUE.replyRecord("the reply", x, 1, 0, 0, 0);
        Wire.hand(x, false, REPLY);
        DUE.same("the client sends nothing", x.flight(), 2);
        for (int i = 0; i < 14; i++) {
            x.copy(0);
        }
        DUE.same("with sixteen there", Wire.handCall(x, 5, 3), OnceWire.RAN);
        DUE.same("with sixteen there", x.flight(), 16);
        DUE.same("with sixteen there", Wire.handReply(x, 0, 1), OnceWire.STALE);
    }

    /** A message for every answer that there is. */
    private static int[] message(int said) {
        switch (said) {
            case OnceWire.RAN:
                return Wire.message(Wire.record(40, 0, 3));
            case OnceWire.AGAIN:
                return Wire.message(Wire.record(500, 0, 3));
            case OnceWire.NOPROCEDURE:
                return Wire.message(Wire.record(40, 0, 4));
            case OnceWire.GARBAGE:
                return Wire.message(Wire.record(40, 0, 3, 0));
            case OnceWire.ACCEPTED:
                return Wire.message(Wire.record(1, 1, 1));
            case OnceWire.STALE:
                return Wire.message(Wire.record(2, 1, 1));
            case OnceWire.WRONG:
                return Wire.message(Wire.record(0, 5, 1));
            default:
                return Wire.bytes(1, 2, 3);
        }
    }

    private static void noBytesThen() {
        DUE.of("and the draft bytes are none then.");
        int[][] all = {{OnceWire.RAN, 1}, {OnceWire.AGAIN, 1}, {OnceWire.NOPROCEDURE, 1}, {OnceWire.GARBAGE, 1},
            {OnceWire.WRONG, 1}, {OnceWire.BROKEN, 1}, {OnceWire.ACCEPTED, 0}, {OnceWire.STALE, 0},
            {OnceWire.WRONG, 0}, {OnceWire.BROKEN, 0}};
        for (int[] row : all) {
            for (int then = 0; then < 2; then++) {
                OnceWire x = Pasts.running(0);
                DUE.same("hand", Wire.hand(x, row[1] == 1, message(row[0])), row[0]);
                DUE.same("nothing left after " + row[0], x.hand(then == 1), OnceWire.BROKEN);
                DUE.same("no part left after " + row[0], Wire.handCall(x, 41, 4), OnceWire.NOPROCEDURE);
            }
            OnceWire y = Pasts.running(0);
            Wire.hand(y, row[1] == 1, message(row[0]));
            for (int i = 0; i < 200; i++) {
                DUE.yes("room for 200 after " + row[0], y.add(0));
            }
            DUE.no("and for no more", y.add(0));
        }
        OnceWire full = Pasts.crammed(0);
        DUE.same("200 bytes", full.hand(false), OnceWire.BROKEN);
        DUE.yes("room again", full.add(0));
    }

    private static void noBytes() {
        for (int side = 0; side < 2; side++) {
            boolean server = side == 1;
            DUE.same("no bytes", new OnceWire(0).hand(server), OnceWire.BROKEN);
            DUE.same("no bytes", Pasts.running(0).hand(server), OnceWire.BROKEN);
            new Trace(() -> Pasts.running(0)).none(DUE, "no bytes", x -> x.hand(server));
            new Trace(() -> new OnceWire(0)).none(DUE, "no bytes", x -> x.hand(server));
        }
    }

    private static void answers() {
        DUE.of("Answers what it says.");
        int[] ofServer = {OnceWire.RAN, OnceWire.AGAIN, OnceWire.NOPROCEDURE, OnceWire.GARBAGE, OnceWire.WRONG,
            OnceWire.BROKEN};
        for (int said : ofServer) {
            DUE.same("the server", Wire.hand(Pasts.running(0), true, message(said)), said);
        }
        int[] ofClient = {OnceWire.ACCEPTED, OnceWire.STALE, OnceWire.WRONG, OnceWire.BROKEN};
        for (int said : ofClient) {
            DUE.same("the client", Wire.hand(Pasts.running(0), false, message(said)), said);
        }
    }
}
