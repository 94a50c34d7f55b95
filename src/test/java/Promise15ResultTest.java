/** Promise 15: the result of calls with status 0, and 0 for all else. */
public final class Promise15ResultTest {
    public static void main(String[] args) {
        Due due = new Due();
        OnceWire x = new OnceWire(0);
        int[] none = {-1, 0, 100, Integer.MIN_VALUE, Integer.MAX_VALUE};
        for (int xid : none) {
            due.same("result " + xid, x.result(xid), 0);
        }
        for (int i = 0; i < 5; i++) {
            x.call(3);
        }
        due.same("pending", x.result(0), 0);
        due.same("ran", Wire.handReply(x, 2, 0, Wire.word(-123456789)), OnceWire.ACCEPTED);
        due.same("no procedure", Wire.handReply(x, 0, 1), OnceWire.ACCEPTED);
        due.same("garbage", Wire.handReply(x, 4, 2), OnceWire.ACCEPTED);
        due.same("ran", Wire.handReply(x, 3, 0, Wire.word(7)), OnceWire.ACCEPTED);
        due.same("another result", Wire.handReply(x, 3, 0, Wire.word(8)), OnceWire.STALE);
        int[] results = {0, 0, -123456789, 7, 0};
        for (int xid = 0; xid < 5; xid++) {
            due.same("result", x.result(xid), results[xid]);
        }
        due.end();
    }
}
