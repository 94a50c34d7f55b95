/** Promise 15: the result of calls with status 0, and 0 for all else. */
public final class Promise15ResultTest {
    private static final Due DUE = new Due();
    private static final int[] RESULTS = {1, -1, 0, Integer.MIN_VALUE, Integer.MAX_VALUE, 0x01020304};

    public static void main(String[] args) {
        statusZero();
        secondReply();
        otherwise();
        none();
        looking();
        DUE.end();
    }

    private static void statusZero() {
        DUE.of("The result in the accepted reply to a call of the client, if its status is 0;");
        OnceWire x = new OnceWire(0);
        for (int i = 0; i < RESULTS.length; i++) {
            x.call(3);
        }
        for (int xid = 0; xid < RESULTS.length; xid++) {
            DUE.same("accepted", Wire.handReply(x, xid, 0, Wire.word(RESULTS[xid])), OnceWire.ACCEPTED);
            DUE.same("result", x.result(xid), RESULTS[xid]);
        }
        for (int xid = 0; xid < RESULTS.length; xid++) {
            DUE.same("it stays", x.result(xid), RESULTS[xid]);
        }
        OnceWire hundred = new OnceWire(1);
        hundred.field(1, 0, false);
        hundred.put(0, 7);
        for (int i = 0; i < 100; i++) {
            hundred.call(1);
            hundred.deliver(0);
            hundred.deliver(0);
        }
        DUE.same("call 0", hundred.result(0), 7);
        DUE.same("call 99", hundred.result(99), 700);
        DUE.same("call 100", hundred.result(100), 0);
    }

    private static void secondReply() {
        OnceWire x = new OnceWire(0);
        x.call(3);
        DUE.same("accepted", Wire.handReply(x, 0, 0, Wire.word(7)), OnceWire.ACCEPTED);
        DUE.same("another", Wire.handReply(x, 0, 0, Wire.word(8)), OnceWire.STALE);
        DUE.same("another status", Wire.handReply(x, 0, 1), OnceWire.STALE);
        DUE.same("the first one's", x.result(0), 7);
    }

    private static void otherwise() {
        DUE.of("otherwise 0.");
        OnceWire x = new OnceWire(0);
        for (int i = 0; i < 4; i++) {
            x.call(3);
            DUE.same("pending", x.result(i), 0);
        }
        DUE.same("status 0", Wire.handReply(x, 0, 0, Wire.word(9)), OnceWire.ACCEPTED);
        DUE.same("status 1", Wire.handReply(x, 1, 1), OnceWire.ACCEPTED);
        DUE.same("status 2", Wire.handReply(x, 2, 2), OnceWire.ACCEPTED);
        DUE.same("refused", Wire.handReply(x, 3, 3, Wire.word(9)), OnceWire.BROKEN);
        int[] results = {9, 0, 0, 0};
        for (int xid = 0; xid < 4; xid++) {
            DUE.same("result", x.result(xid), results[xid]);
        }
        // The server's word is in the reply that is under way: it counts when it is accepted.
        OnceWire y = new OnceWire(0);
        y.field(1, 0, false);
        y.put(0, 5);
        y.call(1);
        y.deliver(0);
        DUE.same("run, not accepted", y.result(0), 0);
        y.deliver(0);
        DUE.same("accepted", y.result(0), 5);
    }

    private static void none() {
        int[] nowhere = {-1, 0, 1, 99, 100, 101, Integer.MIN_VALUE, Integer.MAX_VALUE};
        for (int xid : nowhere) {
            DUE.same("result " + xid, new OnceWire(0).result(xid), 0);
        }
        OnceWire x = new OnceWire(0);
        x.call(3);
        Wire.handReply(x, 0, 0, Wire.word(9));
        DUE.same("before it", x.result(-1), 0);
        DUE.same("it", x.result(0), 9);
        DUE.same("behind it", x.result(1), 0);
    }

    private static void looking() {
        int[] xids = {-1, 0, 2, 4, 100, Integer.MIN_VALUE, Integer.MAX_VALUE};
        for (int xid : xids) {
            new Trace(() -> Pasts.busy(0)).none(DUE, "result of " + xid, x -> x.result(xid));
        }
    }
}
