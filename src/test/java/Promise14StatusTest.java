/** Promise 14: status of calls that are pending, answered, or not there. */
public final class Promise14StatusTest {
    private static final Due DUE = new Due();

    public static void main(String[] args) {
        pendingAndAccepted();
        notByOthers();
        none();
        looking();
        DUE.end();
    }

    private static void pendingAndAccepted() {
        DUE.of("The status of a call of the client: PENDING, or the accepted reply's;");
        OnceWire x = new OnceWire(1);
        x.field(1, 3, false);
        x.call(0);
        x.call(100);
        x.call(1);
        x.call(2);
        DUE.same("ran", x.deliver(0), OnceWire.RAN);
        DUE.same("no procedure", x.deliver(0), OnceWire.NOPROCEDURE);
        x.field(2, 0, false);
        DUE.same("garbage", x.deliver(0), OnceWire.GARBAGE);
        for (int xid = 0; xid < 4; xid++) {
            DUE.same("pending until it is accepted", x.status(xid), OnceWire.PENDING);
        }
        x.lose(0);
        for (int xid = 0; xid < 3; xid++) {
            DUE.same("accept", x.deliver(0), OnceWire.ACCEPTED);
            DUE.same("status", x.status(xid), xid);
        }
        DUE.same("not answered", x.status(3), OnceWire.PENDING);
        DUE.same("PENDING", OnceWire.PENDING, 3);
    }

    /** What is refused by the client leaves the status as it was. */
    private static void notByOthers() {
        OnceWire x = new OnceWire(0);
        x.call(0);
        x.call(0);
        DUE.same("accepted", Wire.handReply(x, 1, 1), OnceWire.ACCEPTED);
        for (int status = 0; status <= 2; status++) {
            int[] rest = status == 0 ? Wire.word(1) : Wire.bytes();
            DUE.same("a second reply", Wire.handReply(x, 1, status, rest), OnceWire.STALE);
            DUE.same("after a second reply", x.status(1), 1);
        }
        DUE.same("status 3", Wire.handReply(x, 0, 3), OnceWire.BROKEN);
        DUE.same("too long", Wire.handReply(x, 0, 1, 0), OnceWire.BROKEN);
        DUE.same("wrong", Wire.hand(x, false, Wire.message(Wire.record(0, 0, 1))), OnceWire.WRONG);
        DUE.same("after these", x.status(0), OnceWire.PENDING);
    }

    private static void none() {
        DUE.of("NONE when there is no call with that xid.");
        for (int made = 0; made <= 8; made++) {
            OnceWire x = new OnceWire(0);
            for (int i = 0; i < made; i++) {
                x.call(0);
            }
            DUE.same("before the first", x.status(-1), OnceWire.NONE);
            DUE.same("behind the last of " + made, x.status(made), OnceWire.NONE);
            if (made > 0) {
                DUE.same("the first", x.status(0), OnceWire.PENDING);
                DUE.same("the last of " + made, x.status(made - 1), OnceWire.PENDING);
            }
            int[] far = {99, 100, 101, 256, Integer.MIN_VALUE, Integer.MAX_VALUE};
            for (int xid : far) {
                DUE.same("far", x.status(xid), OnceWire.NONE);
            }
        }
        OnceWire hundred = Pasts.hundred(0);
        DUE.same("call 98", hundred.status(98), 0);
        DUE.same("call 99", hundred.status(99), 1);
        DUE.same("call 100", hundred.status(100), OnceWire.NONE);
        DUE.same("call 101", hundred.status(101), OnceWire.NONE);
        DUE.same("call -1", hundred.status(-1), OnceWire.NONE);
        // The server knows this xid, the client made no such call.
        OnceWire other = new OnceWire(0);
        DUE.same("run", Wire.handCall(other, 5, 0), OnceWire.RAN);
        DUE.same("a call of another", other.status(5), OnceWire.NONE);
        DUE.same("its reply", other.deliver(0), OnceWire.STALE);
        DUE.same("a call of another", other.status(5), OnceWire.NONE);
        DUE.same("refused calls are none", other.call(256), OnceWire.BAD);
        DUE.same("refused calls are none", other.status(0), OnceWire.NONE);
    }

    private static void looking() {
        int[] xids = {-1, 0, 2, 4, 100, Integer.MIN_VALUE, Integer.MAX_VALUE};
        for (int xid : xids) {
            new Trace(() -> Pasts.busy(0)).none(DUE, "status of " + xid, x -> x.status(xid));
        }
    }
}
