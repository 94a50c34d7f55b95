/** Terms: what the client says of replies, in which order it looks, and what it keeps. */
public final class ClientTest {
    private static final Due DUE = new Due();
    private static final int[] WORDS = {Integer.MIN_VALUE, -256, -1, 3, 4, 255, 256, 1 << 16, 1 << 24,
        Integer.MAX_VALUE};

    public static void main(String[] args) {
        xids();
        broken();
        wrong();
        statuses();
        lengths();
        stale();
        accepted();
        ages();
        DUE.end();
    }

    private static int handRecord(OnceWire x, int... record) {
        return Wire.hand(x, false, Wire.oneFragment(record));
    }

    /** The record is refused so by a running object, in which call 0 is pending, and leaves no trace. */
    private static void refused(String what, int want, int... record) {
        DUE.same(what, handRecord(Pasts.running(0), record), want);
        new Trace(() -> Pasts.running(0)).none(DUE, what, x -> handRecord(x, record));
    }

    private static void xids() {
        DUE.of("THE CLIENT gives its calls the xids 0, 1, 2, ..; a call is PENDING until a reply to it is"
                + " accepted.");
        OnceWire x = new OnceWire(0);
        for (int xid = 0; xid < 8; xid++) {
            DUE.same("xid", x.call(xid == 3 ? 9 : 0), xid);
            DUE.same("pending", x.status(xid), OnceWire.PENDING);
            DUE.same("the next is none", x.status(xid + 1), OnceWire.NONE);
        }
        DUE.same("run, not accepted", x.deliver(0), OnceWire.RAN);
        DUE.same("still pending", x.status(0), OnceWire.PENDING);
        DUE.same("accepted", x.deliver(7), OnceWire.ACCEPTED);
        DUE.same("not pending", x.status(0), 0);
        DUE.same("the others are", x.status(1), OnceWire.PENDING);
        DUE.same("the xid goes on", x.call(0), 8);
    }

    private static void broken() {
        DUE.of("It gets a message: when it is broken, or its record has fewer than twelve bytes, BROKEN;");
        for (int mark = 0; mark < 2; mark++) {
            for (int length = 0; length < 12; length++) {
                refused(length + " bytes", OnceWire.BROKEN, Wire.first(length, Wire.record(0, mark, 1)));
            }
        }
        OnceWire x = Pasts.running(0);
        DUE.same("twelve bytes", handRecord(x, Wire.record(0, 1, 1)), OnceWire.ACCEPTED);
        DUE.same("no bytes", new OnceWire(0).hand(false), OnceWire.BROKEN);
        int[] left = Wire.join(Wire.oneFragment(Wire.record(0, 1, 1)), Wire.bytes(0));
        DUE.same("a byte left", Wire.hand(Pasts.running(0), false, left), OnceWire.BROKEN);
        new Trace(() -> Pasts.running(0)).none(DUE, "a byte left", y -> Wire.hand(y, false, left));
    }

    private static void wrong() {
        DUE.of("else when the second word is not 1, WRONG;");
        int[] marks = {Integer.MIN_VALUE, Integer.MIN_VALUE + 1, -1, 0, 2, 257, (1 << 16) + 1, (1 << 24) + 1,
            Integer.MAX_VALUE};
        for (int mark : marks) {
            refused("second word " + mark, OnceWire.WRONG, Wire.record(0, mark, 1));
            refused("second word " + mark + ", no status", OnceWire.WRONG, Wire.record(0, mark, 3));
            refused("second word " + mark + ", no result", OnceWire.WRONG, Wire.record(0, mark, 0));
            refused("second word " + mark + ", stale", OnceWire.WRONG, Wire.record(50, mark, 1));
        }
        DUE.same("second word 1", handRecord(Pasts.running(0), Wire.record(0, 1, 1)), OnceWire.ACCEPTED);
    }

    private static void statuses() {
        DUE.of("else when the status is not 0 .. 2, or the record has not 16 bytes for status 0, 12 for the"
                + " others, BROKEN;");
        for (int status : WORDS) {
            refused("status " + status, OnceWire.BROKEN, Wire.record(0, 1, status));
            refused("status " + status + ", 16 bytes", OnceWire.BROKEN, Wire.record(0, 1, status, 0, 0, 0, 0));
            refused("status " + status + ", stale", OnceWire.BROKEN, Wire.record(50, 1, status));
        }
    }

    private static void lengths() {
        for (int status = 0; status <= 2; status++) {
            for (int more = 0; more <= 9; more++) {
                int[] record = Wire.record(0, 1, status, Wire.times(more, 0));
                int[] other = Wire.record(50, 1, status, Wire.times(more, 0));
                if (more == (status == 0 ? 4 : 0)) {
                    DUE.same("status " + status, handRecord(Pasts.running(0), record), OnceWire.ACCEPTED);
                    refused("status " + status + ", stale", OnceWire.STALE, other);
                } else {
                    refused("status " + status + " and " + more + " bytes", OnceWire.BROKEN, record);
                    refused("status " + status + " and " + more + " bytes, stale", OnceWire.BROKEN, other);
                }
            }
        }
    }

    private static void stale() {
        DUE.of("else when no pending call has that xid, STALE; nothing happens in all these cases.");
        int[] none = {Integer.MIN_VALUE, -1, 4, 5, 99, 100, 256, 1 << 16, 1 << 24, Integer.MAX_VALUE};
        for (int xid : none) {
            refused("xid " + xid, OnceWire.STALE, Wire.record(xid, 1, 1));
            refused("xid " + xid, OnceWire.STALE, Wire.record(xid, 1, 0, 0, 0, 0, 9));
        }
        // Call 2 of a running object has its answer, with status 1.
        for (int status = 0; status <= 2; status++) {
            refused("answered before", OnceWire.STALE, Wire.record(2, 1, status,
                    Wire.times(status == 0 ? 4 : 0, 9)));
        }
        DUE.same("the last one made", handRecord(Pasts.running(0), Wire.record(3, 1, 1)), OnceWire.ACCEPTED);
        OnceWire x = new OnceWire(0);
        DUE.same("no call was made", handRecord(x, Wire.record(0, 1, 1)), OnceWire.STALE);
        DUE.same("no call was made", x.status(0), OnceWire.NONE);
        DUE.same("made", x.call(0), 0);
        DUE.same("still pending", x.status(0), OnceWire.PENDING);
        DUE.same("pending now", handRecord(x, Wire.record(0, 1, 1)), OnceWire.ACCEPTED);
        staleFromTheLine();
    }

    /** A stale reply that is delivered is gone from the line, and that is all. */
    private static void staleFromTheLine() {
        DUE.same("stale", Pasts.running(0).deliver(3), OnceWire.STALE);
        new Trace(() -> Pasts.running(0)).alike(DUE, "stale", x -> x.deliver(3), x -> x.lose(3));
    }

    private static void accepted() {
        DUE.of("Otherwise the call is pending no more and has that status and result: ACCEPTED.");
        int[] results = {0, 1, -1, 0x01020304, Integer.MIN_VALUE, Integer.MAX_VALUE};
        for (int result : results) {
            OnceWire x = Pasts.running(0);
            DUE.same("accepted", Wire.handReply(x, 1, 0, Wire.word(result)), OnceWire.ACCEPTED);
            DUE.same("status", x.status(1), 0);
            DUE.same("result", x.result(1), result);
            DUE.same("pending no more", Wire.handReply(x, 1, 0, Wire.word(result)), OnceWire.STALE);
            DUE.same("before it", x.status(0), OnceWire.PENDING);
            DUE.same("before it", x.result(0), 0);
            DUE.same("behind it", x.status(3), OnceWire.PENDING);
            DUE.same("the client sends nothing", x.flight(), 5);
        }
        for (int status = 1; status <= 2; status++) {
            OnceWire x = Pasts.running(0);
            DUE.same("accepted", Wire.handReply(x, 3, status), OnceWire.ACCEPTED);
            DUE.same("status", x.status(3), status);
            DUE.same("result", x.result(3), 0);
        }
        whicheverOrder();
    }

    private static void whicheverOrder() {
        OnceWire x = new OnceWire(0);
        for (int i = 0; i < 8; i++) {
            x.call(i);
        }
        int[] order = {7, 0, 4, 3, 6, 1, 5, 2};
        for (int xid : order) {
            DUE.same("accepted", Wire.handReply(x, xid, 0, Wire.word(xid + 70)), OnceWire.ACCEPTED);
        }
        for (int xid = 0; xid < 8; xid++) {
            DUE.same("result", x.result(xid), xid + 70);
        }
        DUE.same("room for calls", x.call(0), 8);
    }

    private static void ages() {
        DUE.of("A pending call has an AGE, at first 0.");
        OnceWire x = new OnceWire(0);
        for (int i = 0; i < 5; i++) {
            x.tick();
        }
        x.call(0);
        DUE.same("age 1", x.tick(), 0);
        DUE.same("age 2", x.tick(), 0);
        DUE.same("age 3", x.tick(), 1);
        // A call that takes the room of an answered one has an age of its own.
        x.tick();
        x.tick();
        DUE.same("accepted", Wire.handReply(x, 0, 1), OnceWire.ACCEPTED);
        x.call(0);
        DUE.same("age 1", x.tick(), 0);
        DUE.same("age 2", x.tick(), 0);
        DUE.same("age 3", x.tick(), 1);
    }
}
