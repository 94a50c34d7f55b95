/** Promise 1: a new object is empty, and its format goes by whether the number is odd. */
public final class Promise01NewObjectTest {
    public static void main(String[] args) {
        Due due = new Due();
        int[] formats = {0, 1, 2, 3, -1, -2, -3, Integer.MAX_VALUE, Integer.MIN_VALUE};
        for (int format : formats) {
            empty(due, format);
            bodies(due, format, format % 2 != 0);
        }
        apart(due);
        due.end();
    }

    private static void empty(Due due, int format) {
        OnceWire x = new OnceWire(format);
        due.same("flight", x.flight(), 0);
        due.same("total", x.total(), 0);
        due.same("runs", x.runs(), 0);
        due.same("status", x.status(0), OnceWire.NONE);
        due.same("result", x.result(0), 0);
        due.same("size", x.size(0), OnceWire.NONE);
        due.same("byteAt", x.byteAt(0, 0), OnceWire.NONE);
        due.same("tick", x.tick(), 0);
        due.same("deliver", x.deliver(0), OnceWire.NONE);
        due.no("put", x.put(0, 0));
        due.same("hand", x.hand(true), OnceWire.BROKEN);
        due.same("call", x.call(0), 0);
        due.callRecord("without fields", x, 0, 0, 0);
    }

    private static void bodies(Due due, int format, boolean odd) {
        OnceWire x = new OnceWire(format);
        x.field(1, 0, false);
        x.put(0, 5);
        x.call(1);
        if (odd) {
            due.callRecord("format " + format, x, 0, 0, 1, 0, 0, 0, 5);
        } else {
            due.callRecord("format " + format, x, 0, 0, 1, 8, 5);
        }
        due.same("deliver", x.deliver(0), OnceWire.RAN);
        due.same("total", x.total(), 5);
    }

    private static void apart(Due due) {
        OnceWire x = new OnceWire(0);
        OnceWire y = new OnceWire(1);
        x.field(1, 0, false);
        x.put(0, 5);
        x.call(1);
        x.deliver(0);
        due.same("another object's total", y.total(), 0);
        due.same("another object's flight", y.flight(), 0);
        due.same("another object's field", y.field(1, 0, false), 0);
    }
}
