/** Terms: the records of calls and of replies, byte by byte. */
public final class RecordsTest {
    private static final Due DUE = new Due();

    public static void main(String[] args) {
        calls();
        replies();
        results();
        DUE.end();
    }

    private static void calls() {
        DUE.of("A CALL record: a word, the call's XID; the word 0; a word, the PROCEDURE; then a value as"
                + " body.");
        OnceWire x = new OnceWire(1);
        x.field(1, 0, false);
        x.put(0, 0x0A0B0C0D);
        int[] procedures = {0, 1, 3, 4, 255};
        for (int xid = 0; xid < procedures.length; xid++) {
            x.call(procedures[xid]);
            DUE.bytes("call", x, xid, 128, 0, 0, 16, 0, 0, 0, xid, 0, 0, 0, 0, 0, 0, 0, procedures[xid],
                    10, 11, 12, 13);
        }
        OnceWire y = new OnceWire(0);
        y.call(255);
        DUE.bytes("call without a body", y, 0, 128, 0, 0, 12, 0, 0, 0, 0, 0, 0, 0, 0, 0, 0, 0, 255);
    }

    private static void replies() {
        DUE.of("A REPLY record: a word, the xid; the word 1; a word, the STATUS, 0 .. 2; and for status 0"
                + " one more word, the RESULT.");
        int[] xids = {0, 1, -1, 0x01020304, Integer.MIN_VALUE, Integer.MAX_VALUE};
        for (int xid : xids) {
            OnceWire x = new OnceWire(0);
            int[] word = Wire.word(xid);
            DUE.same("run", Wire.handCall(x, xid, 0), OnceWire.RAN);
            DUE.bytes("status 0", x, 0, Wire.join(Wire.bytes(128, 0, 0, 16), word,
                    Wire.bytes(0, 0, 0, 1, 0, 0, 0, 0, 0, 0, 0, 0)));
            OnceWire y = new OnceWire(0);
            DUE.same("no procedure", Wire.handCall(y, xid, 4), OnceWire.NOPROCEDURE);
            DUE.bytes("status 1", y, 0, Wire.join(Wire.bytes(128, 0, 0, 12), word,
                    Wire.bytes(0, 0, 0, 1, 0, 0, 0, 1)));
            OnceWire z = new OnceWire(0);
            DUE.same("garbage", Wire.handCall(z, xid, 0, 0), OnceWire.GARBAGE);
            DUE.bytes("status 2", z, 0, Wire.join(Wire.bytes(128, 0, 0, 12), word,
                    Wire.bytes(0, 0, 0, 1, 0, 0, 0, 2)));
        }
    }

    private static void results() {
        int[] results = {0, 1, -1, 0x01020304, Integer.MIN_VALUE, Integer.MAX_VALUE};
        for (int result : results) {
            OnceWire x = new OnceWire(1);
            x.field(1, 0, false);
            x.put(0, result);
            x.call(1);
            DUE.same("run", x.deliver(0), OnceWire.RAN);
            DUE.bytes("result " + result, x, 0, Wire.join(Wire.bytes(128, 0, 0, 16, 0, 0, 0, 0),
                    Wire.bytes(0, 0, 0, 1, 0, 0, 0, 0), Wire.word(result)));
            DUE.same("accepted", x.deliver(0), OnceWire.ACCEPTED);
            DUE.same("result", x.result(0), result);
        }
    }
}
