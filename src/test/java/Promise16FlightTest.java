/** Promise 16: flight counts the messages of both directions, sixteen at most. */
public final class Promise16FlightTest {
    private static final Due DUE = new Due();

    public static void main(String[] args) {
        DUE.of("The number of messages on the network.");
        ups();
        downs();
        notByOthers();
        new Trace(() -> Pasts.busy(0)).none(DUE, "flight", OnceWire::flight);
        new Trace(() -> Pasts.crammed(1)).none(DUE, "flight", OnceWire::flight);
        DUE.end();
    }

    private static void ups() {
        OnceWire x = new OnceWire(0);
        DUE.same("at first", x.flight(), 0);
        for (int n = 1; n <= 8; n++) {
            x.call(0);
            DUE.same("calls", x.flight(), n);
        }
        x.deliver(0);
        DUE.same("a call for a reply", x.flight(), 8);
        x.deliver(7);
        DUE.same("a reply taken", x.flight(), 7);
        x.copy(0);
        DUE.same("a call doubled", x.flight(), 8);
        for (int n = 9; n <= 18; n++) {
            Wire.handCall(x, 1000 + n, 0);
            DUE.same("replies", x.flight(), Math.min(n, 16));
        }
        x.tick();
        x.tick();
        x.tick();
        DUE.same("calls sent again", x.flight(), 16);
    }

    private static void downs() {
        OnceWire x = Pasts.crammed(0);
        for (int n = 15; n >= 0; n--) {
            x.lose(n / 2);
            DUE.same("lost", x.flight(), n);
        }
        x.lose(0);
        DUE.same("none", x.flight(), 0);
    }

    private static void notByOthers() {
        OnceWire x = Pasts.busy(0);
        x.deliver(5);
        x.deliver(-1);
        x.lose(5);
        x.lose(-1);
        x.copy(5);
        x.copy(-1);
        x.call(256);
        x.field(1, 0, false);
        x.put(0, 5);
        x.add(0);
        DUE.same("five", x.flight(), 5);
    }
}
