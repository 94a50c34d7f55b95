/** Promise 12: the server's total, which runs of procedures 1 and 2 change and nothing else does. */
public final class Promise12TotalTest {
    private static final Due DUE = new Due();

    public static void main(String[] args) {
        DUE.of("The server's total.");
        asItRuns();
        edges();
        notByOthers();
        looking();
        DUE.end();
    }

    private static void asItRuns() {
        OnceWire x = new OnceWire(1);
        DUE.same("at first", x.total(), 0);
        x.field(1, 1, false);
        x.put(0, 50);
        x.call(1);
        DUE.same("called, not run", x.total(), 0);
        x.deliver(0);
        DUE.same("run, not answered", x.total(), 50);
        x.deliver(0);
        DUE.same("answered", x.total(), 50);
    }

    private static void edges() {
        int[] edges = {0, 1, -1, Integer.MAX_VALUE, Integer.MIN_VALUE};
        for (int edge : edges) {
            for (int more = -1; more <= 1; more++) {
                OnceWire x = new OnceWire(1);
                x.field(1, 1, false);
                DUE.same("set", Wire.handCall(x, 1, 2, Wire.words(edge)), OnceWire.RAN);
                DUE.same("set to " + edge, x.total(), edge);
                DUE.same("grow", Wire.handCall(x, 2, 1, Wire.words(more)), OnceWire.RAN);
                DUE.same(edge + " and " + more, x.total(), edge + more);
            }
        }
    }

    private static void notByOthers() {
        OnceWire x = new OnceWire(1);
        x.field(1, 1, false);
        int[] five = Wire.words(5);
        Wire.handCall(x, 1, 2, five);
        DUE.same("again", Wire.handCall(x, 1, 2, Wire.words(6)), OnceWire.AGAIN);
        DUE.same("again", x.total(), 5);
        DUE.same("procedure 0", Wire.handCall(x, 2, 0, five), OnceWire.RAN);
        DUE.same("procedure 0", x.total(), 5);
        DUE.same("procedure 3", Wire.handCall(x, 3, 3, five), OnceWire.RAN);
        DUE.same("procedure 3", x.total(), 5);
        DUE.same("procedure 4", Wire.handCall(x, 4, 4, five), OnceWire.NOPROCEDURE);
        DUE.same("procedure 4", x.total(), 5);
        DUE.same("garbage", Wire.handCall(x, 5, 1, 0, 0, 0), OnceWire.GARBAGE);
        DUE.same("garbage", x.total(), 5);
        DUE.same("wrong", Wire.hand(x, true, Wire.message(Wire.record(6, 1, 1, five))), OnceWire.WRONG);
        DUE.same("wrong", x.total(), 5);
        DUE.same("broken", Wire.hand(x, true, 1), OnceWire.BROKEN);
        DUE.same("broken", x.total(), 5);
    }

    private static void looking() {
        new Trace(() -> Pasts.busy(0)).none(DUE, "total", OnceWire::total);
        new Trace(() -> Pasts.crammed(1)).none(DUE, "total", OnceWire::total);
    }
}
