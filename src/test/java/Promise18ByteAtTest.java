/** Promise 18: each byte of each message, and NONE outside of them. */
public final class Promise18ByteAtTest {
    private static final Due DUE = new Due();

    public static void main(String[] args) {
        bytes();
        noSuchByte();
        noSuchMessage();
        looking();
        DUE.end();
    }

    private static void bytes() {
        DUE.of("Byte i (0 the first) of message k of the line;");
        OnceWire x = new OnceWire(1);
        x.field(1, 0, true);
        x.put(0, 0x81020384);
        x.put(0, -1);
        x.call(255);
        DUE.bytes("call", x, 0,
                0, 0, 0, 16, 0, 0, 0, 0, 0, 0, 0, 0, 0, 0, 0, 255, 0, 0, 0, 2,
                128, 0, 0, 8, 0x81, 2, 3, 0x84, 255, 255, 255, 255);
        x.call(254);
        DUE.same("the second's procedure", x.byteAt(1, 15), 254);
        DUE.same("the second's xid", x.byteAt(1, 7), 1);
        x.deliver(0);
        DUE.bytes("reply", x, 1, 128, 0, 0, 12, 0, 0, 0, 0, 0, 0, 0, 1, 0, 0, 0, 1);
        DUE.same("the second is the first now", x.byteAt(0, 7), 1);
    }

    private static void noSuchByte() {
        DUE.of("NONE when there is none such.");
        OnceWire x = new OnceWire(1);
        x.field(1, 0, false);
        x.call(9);
        x.field(2, 0, true);
        x.call(9);
        int[] sizes = {20, 28};
        for (int k = 0; k < 2; k++) {
            DUE.same("before the first byte", x.byteAt(k, -1), OnceWire.NONE);
            DUE.same("the first byte", x.byteAt(k, 0), k == 0 ? 128 : 0);
            DUE.same("the last byte", x.byteAt(k, sizes[k] - 1), 0);
            DUE.same("behind the last byte", x.byteAt(k, sizes[k]), OnceWire.NONE);
            DUE.same("behind that", x.byteAt(k, sizes[k] + 1), OnceWire.NONE);
            int[] far = {155, 156, 157, 200, 256, Integer.MIN_VALUE, Integer.MAX_VALUE};
            for (int i : far) {
                DUE.same("far", x.byteAt(k, i), OnceWire.NONE);
            }
        }
        x.deliver(1);
        DUE.same("the last byte of a reply", x.byteAt(1, 15), 1);
        DUE.same("no bytes of a longer message before it", x.byteAt(1, 16), OnceWire.NONE);
    }

    private static void noSuchMessage() {
        int[] nowhere = {-1, 5, 6, 15, 16, 17, Integer.MIN_VALUE, Integer.MAX_VALUE};
        int[] places = {-1, 0, 15, 16, Integer.MIN_VALUE, Integer.MAX_VALUE};
        for (int k : nowhere) {
            for (int i : places) {
                DUE.same("message " + k + " of none", new OnceWire(0).byteAt(k, i), OnceWire.NONE);
                DUE.same("message " + k + " of five", Pasts.busy(0).byteAt(k, i), OnceWire.NONE);
            }
        }
        DUE.same("message 0 of none", new OnceWire(0).byteAt(0, 0), OnceWire.NONE);
        DUE.same("message 4 of five", Pasts.busy(0).byteAt(4, 0), 128);
        DUE.same("message 16 of sixteen", Pasts.crammed(0).byteAt(16, 0), OnceWire.NONE);
        DUE.same("message 15 of sixteen", Pasts.crammed(0).byteAt(15, 1), 0);
        OnceWire x = new OnceWire(0);
        x.call(0);
        x.lose(0);
        DUE.same("a message that was there", x.byteAt(0, 0), OnceWire.NONE);
    }

    private static void looking() {
        int[][] places = {{0, 0}, {4, 15}, {4, 16}, {5, 0}, {-1, 0}, {0, -1}};
        for (int[] place : places) {
            new Trace(() -> Pasts.busy(0)).none(DUE, "byteAt", x -> x.byteAt(place[0], place[1]));
        }
    }
}
