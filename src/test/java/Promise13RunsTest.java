/** Promise 13: runs counts what ran, once as long as the server remembers the call. */
public final class Promise13RunsTest {
    private static final Due DUE = new Due();

    public static void main(String[] args) {
        DUE.of("How often a procedure was run.");
        procedures();
        notByOthers();
        forgotten();
        new Trace(() -> Pasts.busy(0)).none(DUE, "runs", OnceWire::runs);
        new Trace(() -> Pasts.crammed(1)).none(DUE, "runs", OnceWire::runs);
        DUE.end();
    }

    private static void procedures() {
        OnceWire x = new OnceWire(0);
        DUE.same("at first", x.runs(), 0);
        for (int procedure = 0; procedure < 4; procedure++) {
            DUE.same("call", x.call(procedure), procedure);
            DUE.same("called, not run", x.runs(), procedure);
            DUE.same("run", x.deliver(0), OnceWire.RAN);
            DUE.same("run", x.runs(), procedure + 1);
            DUE.same("answered", x.deliver(0), OnceWire.ACCEPTED);
            DUE.same("answered", x.runs(), procedure + 1);
        }
    }

    private static void notByOthers() {
        OnceWire x = new OnceWire(0);
        DUE.same("run", Wire.handCall(x, 0, 0), OnceWire.RAN);
        DUE.same("again", Wire.handCall(x, 0, 0), OnceWire.AGAIN);
        DUE.same("again", x.runs(), 1);
        DUE.same("no procedure", Wire.handCall(x, 1, 4), OnceWire.NOPROCEDURE);
        DUE.same("no procedure", Wire.handCall(x, 2, -1), OnceWire.NOPROCEDURE);
        DUE.same("no procedure", x.runs(), 1);
        DUE.same("garbage", Wire.handCall(x, 3, 0, 1), OnceWire.GARBAGE);
        DUE.same("garbage", x.runs(), 1);
        DUE.same("wrong", Wire.hand(x, true, Wire.message(Wire.record(6, 1, 0))), OnceWire.WRONG);
        DUE.same("wrong", x.runs(), 1);
        DUE.same("broken", x.hand(true), OnceWire.BROKEN);
        DUE.same("broken", x.runs(), 1);
    }

    private static void forgotten() {
        OnceWire x = new OnceWire(0);
        for (int xid = 0; xid < 5; xid++) {
            Wire.handCall(x, xid, 0);
        }
        DUE.same("five", x.runs(), 5);
        DUE.same("the second is remembered", Wire.handCall(x, 1, 0), OnceWire.AGAIN);
        DUE.same("five", x.runs(), 5);
        DUE.same("the first is forgotten, so it runs again", Wire.handCall(x, 0, 0), OnceWire.RAN);
        DUE.same("six", x.runs(), 6);
    }
}
