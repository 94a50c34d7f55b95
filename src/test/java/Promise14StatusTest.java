/** Promise 14: status of calls that are pending, answered, or not there. */
public final class Promise14StatusTest {
    public static void main(String[] args) {
        Due due = new Due();
        OnceWire x = new OnceWire(1);
        x.field(1, 3, false);
        x.call(0);
        x.call(100);
        x.call(1);
        x.call(2);
        int[] none = {-1, 4, 99, 100, Integer.MIN_VALUE, Integer.MAX_VALUE};
        for (int xid : none) {
            due.same("status " + xid, x.status(xid), OnceWire.NONE);
        }
        due.same("ran", x.deliver(0), OnceWire.RAN);
        due.same("no procedure", x.deliver(0), OnceWire.NOPROCEDURE);
        x.field(2, 0, false);
        due.same("garbage", x.deliver(0), OnceWire.GARBAGE);
        for (int xid = 0; xid < 4; xid++) {
            due.same("pending until it is accepted", x.status(xid), OnceWire.PENDING);
        }
        x.lose(0);
        for (int xid = 0; xid < 3; xid++) {
            due.same("accept", x.deliver(0), OnceWire.ACCEPTED);
            due.same("status", x.status(xid), xid);
        }
        due.same("not answered", x.status(3), OnceWire.PENDING);
        due.same("a second reply", Wire.handReply(x, 1, 2), OnceWire.STALE);
        due.same("changes nothing", x.status(1), 1);
        due.end();
    }
}
