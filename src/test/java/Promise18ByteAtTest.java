/** Promise 18: each byte of each message, and NONE outside of them. */
public final class Promise18ByteAtTest {
    public static void main(String[] args) {
        Due due = new Due();
        OnceWire x = new OnceWire(1);
        x.field(1, 0, true);
        x.put(0, 0x81020384);
        x.put(0, -1);
        x.call(255);
        due.bytes("call", x, 0,
                0, 0, 0, 16, 0, 0, 0, 0, 0, 0, 0, 0, 0, 0, 0, 255, 0, 0, 0, 2,
                128, 0, 0, 8, 0x81, 2, 3, 0x84, 255, 255, 255, 255);
        due.same("behind its last byte", x.byteAt(0, 32), OnceWire.NONE);
        due.same("before its first byte", x.byteAt(0, -1), OnceWire.NONE);
        due.same("far", x.byteAt(0, Integer.MAX_VALUE), OnceWire.NONE);
        due.same("far", x.byteAt(0, Integer.MIN_VALUE), OnceWire.NONE);
        int[] none = {-1, 1, 16, Integer.MIN_VALUE, Integer.MAX_VALUE};
        for (int k : none) {
            due.same("byteAt " + k, x.byteAt(k, 0), OnceWire.NONE);
        }
        x.deliver(0);
        due.bytes("reply", x, 0, 128, 0, 0, 12, 0, 0, 0, 0, 0, 0, 0, 1, 0, 0, 0, 1);
        due.same("no bytes of the longer message before it", x.byteAt(0, 16), OnceWire.NONE);
        due.end();
    }
}
