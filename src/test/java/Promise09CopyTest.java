/** Promise 9: copy sends a message once more to the same side, up to sixteen in the line. */
public final class Promise09CopyTest {
    private static final Due DUE = new Due();

    public static void main(String[] args) {
        once();
        sameSide();
        none();
        sixteen();
        DUE.end();
    }

    private static void once() {
        DUE.of("Message k is sent once more, to the same side.");
        OnceWire x = new OnceWire(1);
        x.field(1, 1, false);
        x.put(0, -9);
        x.call(1);
        x.call(200);
        DUE.yes("the first", x.copy(0));
        DUE.same("one more", x.flight(), 3);
        DUE.callRecord("it stays where it was", x, 0, 0, 1, Wire.words(-9));
        DUE.callRecord("the other one stays", x, 1, 1, 200, Wire.words(-9));
        DUE.callRecord("it comes to the end", x, 2, 0, 1, Wire.words(-9));
        x.put(0, 5);
        DUE.yes("the copy", x.copy(2));
        DUE.callRecord("a copy of the copy", x, 3, 0, 1, Wire.words(-9));
        DUE.same("nothing is run by that", x.runs(), 0);
    }

    private static void sameSide() {
        for (int k = 0; k < 5; k++) {
            int place = k;
            DUE.yes("message " + k, Pasts.running(0).copy(k));
            OnceWire copied = Pasts.running(0);
            copied.copy(k);
            OnceWire plain = Pasts.running(0);
            DUE.same("the copy of message " + k, copied.deliver(5), plain.deliver(k));
            DUE.same("runs", copied.runs(), plain.runs());
            DUE.same("total", copied.total(), plain.total());
            DUE.same("the message is still there", copied.flight(), plain.flight() + 1);
            new Trace(() -> Pasts.running(0)).none(DUE, "a copy that is lost", x -> {
                x.copy(place);
                x.lose(5);
            });
        }
        OnceWire x = new OnceWire(0);
        x.call(3);
        x.copy(0);
        DUE.same("the copy of a call", x.deliver(1), OnceWire.RAN);
        DUE.same("the call", x.deliver(0), OnceWire.AGAIN);
        x.copy(0);
        DUE.same("the copy of a reply", x.deliver(2), OnceWire.ACCEPTED);
        DUE.same("the reply", x.deliver(0), OnceWire.STALE);
        DUE.same("the reply sent again", x.deliver(0), OnceWire.STALE);
    }

    private static void none() {
        DUE.of("False, changing nothing, when there is none");
        int[] nowhere = {-1, 5, 6, 15, 16, 17, Integer.MIN_VALUE, Integer.MAX_VALUE};
        for (int k : nowhere) {
            DUE.no("message " + k + " of none", new OnceWire(0).copy(k));
            new Trace(() -> new OnceWire(0)).none(DUE, "message " + k, x -> x.copy(k));
            DUE.no("message " + k + " of five", Pasts.busy(0).copy(k));
            new Trace(() -> Pasts.busy(0)).none(DUE, "message " + k, x -> x.copy(k));
        }
        DUE.no("message 0 of none", new OnceWire(0).copy(0));
        DUE.yes("message 0 of five", Pasts.busy(0).copy(0));
        DUE.yes("message 4 of five", Pasts.busy(0).copy(4));
    }

    private static void sixteen() {
        DUE.of("or sixteen messages are there.");
        OnceWire x = new OnceWire(0);
        x.call(0);
        for (int count = 1; count < 16; count++) {
            DUE.yes("with " + count + " there", x.copy(count - 1));
            DUE.same("flight", x.flight(), count + 1);
        }
        for (int k = -1; k <= 16; k++) {
            int place = k;
            DUE.no("with sixteen there", x.copy(k));
            DUE.no("with sixteen there", Pasts.crammed(0).copy(k));
            new Trace(() -> Pasts.crammed(0)).none(DUE, "message " + k, y -> y.copy(place));
        }
        DUE.same("flight", x.flight(), 16);
        x.lose(15);
        DUE.yes("room again", x.copy(14));
        DUE.no("room no more", x.copy(14));
    }
}
