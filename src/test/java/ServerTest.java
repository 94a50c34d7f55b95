/** Terms: what the server says, in which order it looks, and what it remembers. */
public final class ServerTest {
    private static final Due DUE = new Due();

    public static void main(String[] args) {
        wrong();
        procedures();
        fourRemembered();
        remembersAll();
        DUE.end();
    }

    private static void wrong() {
        OnceWire x = new OnceWire(0);
        int[] marks = {1, -1, 2, 256, 1 << 24, Integer.MIN_VALUE};
        for (int mark : marks) {
            DUE.same("mark " + mark, Wire.hand(x, true, Wire.message(Wire.record(0, mark, 9))),
                    OnceWire.WRONG);
        }
        DUE.same("nothing is sent", x.flight(), 0);
        DUE.same("nothing is remembered", Wire.handCall(x, 0, 0), OnceWire.RAN);
        DUE.same("wrong before remembered", Wire.hand(x, true, Wire.message(Wire.record(0, 1, 0))),
                OnceWire.WRONG);
    }

    private static void procedures() {
        OnceWire x = new OnceWire(0);
        int[] none = {4, -1, 255, 256, 1 << 24, Integer.MIN_VALUE, Integer.MAX_VALUE};
        int xid = 0;
        for (int procedure : none) {
            // The body is faulty too: the procedure is looked at first.
            DUE.same("procedure " + procedure, Wire.handCall(x, xid, procedure, 0),
                    OnceWire.NOPROCEDURE);
            DUE.bytes("reply", x, xid, Wire.message(Wire.record(xid, 1, 1)));
            xid++;
        }
        DUE.same("garbage", Wire.handCall(x, xid, 3, 0), OnceWire.GARBAGE);
        DUE.bytes("reply", x, xid, Wire.message(Wire.record(xid, 1, 2)));
    }

    private static void fourRemembered() {
        OnceWire x = new OnceWire(0);
        int[] xids = {Integer.MIN_VALUE, -1, 7, Integer.MAX_VALUE, 0, 100};
        for (int i = 0; i < 4; i++) {
            DUE.same("run", Wire.handCall(x, xids[i], 3), OnceWire.RAN);
        }
        for (int i = 0; i < 4; i++) {
            DUE.same("again", Wire.handCall(x, xids[i], 3), OnceWire.AGAIN);
            DUE.bytes("the same", x, 4 + i, Wire.message(Wire.record(xids[i], 1, 0, 0, 0, 0, 0)));
        }
        DUE.same("the first, again", Wire.handCall(x, xids[0], 3), OnceWire.AGAIN);
        DUE.same("a fifth", Wire.handCall(x, xids[4], 3), OnceWire.RAN);
        DUE.same("the second is remembered", Wire.handCall(x, xids[1], 3), OnceWire.AGAIN);
        DUE.same("the first is forgotten", Wire.handCall(x, xids[0], 3), OnceWire.RAN);
        DUE.same("the second is forgotten", Wire.handCall(x, xids[1], 3), OnceWire.RAN);
        DUE.same("the fourth is remembered", Wire.handCall(x, xids[3], 3), OnceWire.AGAIN);
        DUE.same("the fifth is remembered", Wire.handCall(x, xids[4], 3), OnceWire.AGAIN);
        DUE.same("a new one", Wire.handCall(x, xids[5], 3), OnceWire.RAN);
        DUE.same("the fourth is forgotten", Wire.handCall(x, xids[3], 3), OnceWire.RAN);
    }

    /** Replies of all statuses are remembered; the bytes of the later call do not matter. */
    private static void remembersAll() {
        OnceWire x = new OnceWire(0);
        x.field(1, 0, false);
        DUE.same("no procedure", Wire.handCall(x, 1, 4), OnceWire.NOPROCEDURE);
        DUE.same("garbage", Wire.handCall(x, 2, 1, 8), OnceWire.GARBAGE);
        DUE.same("run", Wire.handCall(x, 3, 1, 8, 6), OnceWire.RAN);
        DUE.same("run", Wire.handCall(x, 4, 1, 8, 6), OnceWire.RAN);
        for (int xid = 1; xid < 4; xid++) {
            DUE.same("again", Wire.handCall(x, xid, 1, 8, 60), OnceWire.AGAIN);
            DUE.same("again, bad procedure", Wire.handCall(x, xid, -9), OnceWire.AGAIN);
            DUE.same("again, bad body", Wire.handCall(x, xid, 1, 8), OnceWire.AGAIN);
        }
        DUE.same("total", x.total(), 12);
        DUE.bytes("no procedure", x, 4, Wire.message(Wire.record(1, 1, 1)));
        DUE.bytes("garbage", x, 7, Wire.message(Wire.record(2, 1, 2)));
        DUE.bytes("the result of then", x, 10, Wire.message(Wire.record(3, 1, 0, 0, 0, 0, 6)));
    }
}
