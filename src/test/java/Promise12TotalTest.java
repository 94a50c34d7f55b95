/** Promise 12: the total, as the four procedures change it. */
public final class Promise12TotalTest {
    public static void main(String[] args) {
        Due due = new Due();
        OnceWire x = new OnceWire(1);
        x.field(1, 1, false);
        step(due, x, 1, 50, 50, 50);
        step(due, x, 1, -80, -30, -30);
        step(due, x, 0, 9, -30, 0);
        step(due, x, 3, 9, -30, -30);
        step(due, x, 2, Integer.MAX_VALUE, Integer.MAX_VALUE, -30);
        step(due, x, 1, 1, Integer.MIN_VALUE, Integer.MIN_VALUE);
        step(due, x, 2, 4, 4, Integer.MIN_VALUE);
        due.same("no procedure", Wire.handCall(x, -1, 4, 0, 0, 0, 1), OnceWire.NOPROCEDURE);
        due.same("garbage", Wire.handCall(x, -2, 1, 0, 0, 0), OnceWire.GARBAGE);
        due.same("they change nothing", x.total(), 4);
        digests(due);
        due.end();
    }

    private static void step(Due due, OnceWire x, int procedure, int v, int total, int result) {
        x.put(0, v);
        int xid = x.call(procedure);
        due.same("deliver", x.deliver(0), OnceWire.RAN);
        due.same("total", x.total(), total);
        due.same("deliver", x.deliver(0), OnceWire.ACCEPTED);
        due.same("total", x.total(), total);
        due.same("result", x.result(xid), result);
    }

    private static void digests(Due due) {
        OnceWire x = new OnceWire(1);
        due.same("no fields", Wire.digest(x, 0), 0);
        x.field(1, 0, true);
        due.same("empty list", Wire.digest(x, 1, Wire.words(0)), 0);
        due.same("list of 0", Wire.digest(x, 2, Wire.words(1, 0)), 31);
        due.same("list", Wire.digest(x, 3, Wire.words(3, 5, 6, 7)),
                ((3 * 31 + 5) * 31 + 6) * 31 + 7);
        x.field(2, 2, false);
        due.same("list and single", Wire.digest(x, 4, Wire.words(0, 9)), 9);
        due.same("list and single", Wire.digest(x, 5, Wire.words(1, -2, 9)), (31 - 2) * 31 + 9);
        due.same("as ints wrap", Wire.digest(x, 6, Wire.words(1, 1 << 30, 3)),
                (31 + (1 << 30)) * 31 + 3);
    }
}
