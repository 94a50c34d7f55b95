/** Promise 16: flight counts the messages of both directions, sixteen at most. */
public final class Promise16FlightTest {
    public static void main(String[] args) {
        Due due = new Due();
        OnceWire x = new OnceWire(0);
        for (int n = 1; n <= 8; n++) {
            x.call(0);
            due.same("calls", x.flight(), n);
        }
        x.deliver(0);
        due.same("a call for a reply", x.flight(), 8);
        x.deliver(7);
        due.same("a reply taken", x.flight(), 7);
        x.lose(0);
        due.same("a call lost", x.flight(), 6);
        x.copy(0);
        due.same("a call doubled", x.flight(), 7);
        for (int n = 8; n <= 20; n++) {
            Wire.handCall(x, 1000 + n, 0);
            due.same("replies", x.flight(), Math.min(n, 16));
        }
        x.lose(16);
        x.copy(16);
        x.deliver(16);
        due.same("no message 16", x.flight(), 16);
        for (int n = 15; n >= 0; n--) {
            x.lose(n);
            due.same("lost", x.flight(), n);
        }
        due.end();
    }
}
