/** Promise 8: lose takes a message off the line, and nobody gets it. */
public final class Promise08LoseTest {
    private static final Due DUE = new Due();

    public static void main(String[] args) {
        takes();
        everyPlace();
        none();
        DUE.end();
    }

    private static void takes() {
        DUE.of("Takes message k off the network.");
        OnceWire x = new OnceWire(0);
        x.call(0);
        x.call(3);
        x.deliver(0);
        x.call(5);
        DUE.yes("the middle one", x.lose(1));
        DUE.same("one is gone", x.flight(), 2);
        DUE.callRecord("first", x, 0, 1, 3);
        DUE.callRecord("last", x, 1, 2, 5);
        DUE.same("it was not accepted", x.status(0), OnceWire.PENDING);
        DUE.same("the side goes with the message", x.deliver(1), OnceWire.NOPROCEDURE);
        DUE.yes("the last", x.lose(1));
        DUE.yes("the first", x.lose(0));
        DUE.same("the server got none of them", x.runs(), 1);
        DUE.same("the calls are pending", x.status(1), OnceWire.PENDING);
        x.tick();
        x.tick();
        DUE.same("and sent again", x.tick(), 3);
    }

    private static void everyPlace() {
        for (int k = 0; k < 16; k++) {
            OnceWire x = Pasts.crammed(0);
            OnceWire before = Pasts.crammed(0);
            DUE.yes("message " + k, x.lose(k));
            DUE.same("flight", x.flight(), 15);
            for (int i = 0; i < 15; i++) {
                int was = i < k ? i : i + 1;
                DUE.same("xid", x.byteAt(i, 7), before.byteAt(was, 7));
                DUE.same("call or reply", x.byteAt(i, 11), before.byteAt(was, 11));
                DUE.same("size", x.size(i), before.size(was));
            }
            DUE.same("nothing behind", x.size(15), OnceWire.NONE);
        }
    }

    private static void none() {
        DUE.of("False when there is none.");
        int[] nowhere = {-1, 5, 6, 16, 17, Integer.MIN_VALUE, Integer.MAX_VALUE};
        for (int k : nowhere) {
            DUE.no("message " + k + " of none", new OnceWire(0).lose(k));
            DUE.no("message " + k + " of five", Pasts.busy(0).lose(k));
            new Trace(() -> Pasts.busy(0)).none(DUE, "message " + k, x -> x.lose(k));
        }
        DUE.no("message 0 of none", new OnceWire(0).lose(0));
        DUE.yes("message 4 of five", Pasts.busy(0).lose(4));
        int[] beside = {-1, 16, Integer.MIN_VALUE, Integer.MAX_VALUE};
        for (int k : beside) {
            DUE.no("message " + k + " of sixteen", Pasts.crammed(0).lose(k));
            new Trace(() -> Pasts.crammed(0)).none(DUE, "message " + k, x -> x.lose(k));
        }
        OnceWire x = new OnceWire(0);
        x.call(0);
        DUE.no("message 1 of one", x.lose(1));
        DUE.yes("message 0 of one", x.lose(0));
        DUE.no("message 0 of none", x.lose(0));
    }
}
