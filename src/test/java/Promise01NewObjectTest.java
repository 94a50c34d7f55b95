/** Promise 1: a new object is empty, and its format goes by whether the number is odd. */
public final class Promise01NewObjectTest {
    private static final Due DUE = new Due();
    private static final int[] FORMATS = {0, 1, 2, 3, -1, -2, -3, -4, Integer.MAX_VALUE, Integer.MAX_VALUE - 1,
        Integer.MIN_VALUE, Integer.MIN_VALUE + 1};

    public static void main(String[] args) {
        DUE.of("A schema without fields, no calls, an empty network;");
        for (int format : FORMATS) {
            noFields(format);
            noCalls(format);
            emptyNetwork(format);
        }
        apart();
        DUE.of("all bodies are of format 1 when format is odd, else of format 0.");
        for (int format : FORMATS) {
            bodies(format, Math.floorMod(format, 2) == 1);
        }
        DUE.end();
    }

    private static void noFields(int format) {
        OnceWire x = new OnceWire(format);
        for (int f = -1; f <= 4; f++) {
            DUE.no("put", x.put(f, 0));
        }
        DUE.same("call", x.call(3), 0);
        DUE.callRecord("without fields", x, 0, 0, 3);
        DUE.same("run", x.deliver(0), OnceWire.RAN);
        for (int f = 0; f < 4; f++) {
            DUE.same("field", x.field(f + 1, 0, false), f);
        }
    }

    private static void noCalls(int format) {
        OnceWire x = new OnceWire(format);
        for (int xid = -1; xid <= 100; xid++) {
            DUE.same("status", x.status(xid), OnceWire.NONE);
            DUE.same("result", x.result(xid), 0);
        }
        for (int i = 0; i < 4; i++) {
            DUE.same("tick", x.tick(), 0);
        }
        DUE.same("total", x.total(), 0);
        DUE.same("runs", x.runs(), 0);
        DUE.same("no draft bytes to the server", x.hand(true), OnceWire.BROKEN);
        DUE.same("no draft bytes to the client", x.hand(false), OnceWire.BROKEN);
        DUE.same("a reply to none", Wire.handReply(x, 0, 1), OnceWire.STALE);
        DUE.same("the first xid", x.call(0), 0);
    }

    private static void emptyNetwork(int format) {
        OnceWire x = new OnceWire(format);
        DUE.same("flight", x.flight(), 0);
        for (int k = -1; k <= 16; k++) {
            DUE.same("size", x.size(k), OnceWire.NONE);
            DUE.same("byteAt", x.byteAt(k, 0), OnceWire.NONE);
            DUE.same("deliver", x.deliver(k), OnceWire.NONE);
            DUE.no("lose", x.lose(k));
            DUE.no("copy", x.copy(k));
        }
    }

    private static void apart() {
        OnceWire x = Pasts.crammed(0);
        OnceWire y = new OnceWire(1);
        DUE.same("crammed", x.flight(), 16);
        DUE.same("another object's total", y.total(), 0);
        DUE.same("another object's runs", y.runs(), 0);
        DUE.same("another object's flight", y.flight(), 0);
        DUE.same("another object's call", y.status(0), OnceWire.NONE);
        DUE.same("another object's field", y.field(1, 0, false), 0);
    }

    private static void bodies(int format, boolean odd) {
        OnceWire x = new OnceWire(format);
        x.field(1, 0, false);
        x.put(0, 5);
        x.call(1);
        if (odd) {
            DUE.callRecord("format " + format, x, 0, 0, 1, 0, 0, 0, 5);
        } else {
            DUE.callRecord("format " + format, x, 0, 0, 1, 8, 5);
        }
        DUE.same("deliver", x.deliver(0), OnceWire.RAN);
        DUE.same("total", x.total(), 5);
        DUE.same("a body of format 0", Wire.handCall(x, 8, 0, 8, 5), odd ? OnceWire.GARBAGE : OnceWire.RAN);
        DUE.same("a body of format 1", Wire.handCall(x, 9, 0, 0, 0, 0, 5),
                odd ? OnceWire.RAN : OnceWire.GARBAGE);
    }
}
