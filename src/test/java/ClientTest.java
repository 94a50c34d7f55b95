/** Terms: what the client says of replies, and in which order it looks. */
public final class ClientTest {
    private static final Due DUE = new Due();

    public static void main(String[] args) {
        OnceWire x = new OnceWire(0);
        x.call(0);
        int[] marks = {0, -1, 2, 257, Integer.MIN_VALUE};
        for (int mark : marks) {
            said(x, "mark " + mark, OnceWire.WRONG, Wire.record(0, mark, 1));
        }
        said(x, "wrong before a bad status", OnceWire.WRONG, Wire.record(0, 0, 9));
        int[] statuses = {3, -1, 256, Integer.MIN_VALUE, Integer.MAX_VALUE};
        for (int status : statuses) {
            said(x, "status " + status, OnceWire.BROKEN, Wire.record(0, 1, status));
            said(x, "status " + status, OnceWire.BROKEN, Wire.record(0, 1, status, 0, 0, 0, 0));
        }
        said(x, "eleven bytes", OnceWire.BROKEN, java.util.Arrays.copyOf(Wire.record(0, 1, 1), 11));
        said(x, "0 without a result", OnceWire.BROKEN, Wire.record(0, 1, 0));
        said(x, "0 with three bytes", OnceWire.BROKEN, Wire.record(0, 1, 0, 0, 0, 0));
        said(x, "0 with five bytes", OnceWire.BROKEN, Wire.record(0, 1, 0, 0, 0, 0, 0, 0));
        said(x, "1 with a result", OnceWire.BROKEN, Wire.record(0, 1, 1, 0, 0, 0, 0));
        said(x, "1 with a byte", OnceWire.BROKEN, Wire.record(0, 1, 1, 0));
        said(x, "2 with a result", OnceWire.BROKEN, Wire.record(0, 1, 2, 0, 0, 0, 0));
        said(x, "broken before stale", OnceWire.BROKEN, Wire.record(5, 1, 0));
        int[] xids = {1, -1, 256, Integer.MIN_VALUE, Integer.MAX_VALUE};
        for (int xid : xids) {
            said(x, "xid " + xid, OnceWire.STALE, Wire.record(xid, 1, 1));
        }
        DUE.same("nothing happened", x.status(0), OnceWire.PENDING);
        said(x, "accepted", OnceWire.ACCEPTED, Wire.record(0, 1, 0, 1, 2, 3, 4));
        DUE.same("status", x.status(0), 0);
        DUE.same("result", x.result(0), 0x01020304);
        said(x, "not pending", OnceWire.STALE, Wire.record(0, 1, 0, 1, 2, 3, 4));
        DUE.same("the client sends nothing", x.flight(), 1);
        for (int i = 0; i < 3; i++) {
            DUE.same("not sent again", x.tick(), 0);
        }
        DUE.end();
    }

    private static void said(OnceWire x, String what, int want, int... record) {
        DUE.same(what, Wire.hand(x, false, Wire.message(record)), want);
    }
}
