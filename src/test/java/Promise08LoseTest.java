/** Promise 8: lose takes a message off the line, and nobody gets it. */
public final class Promise08LoseTest {
    public static void main(String[] args) {
        Due due = new Due();
        OnceWire x = new OnceWire(0);
        int[] none = {0, -1, 1, Integer.MIN_VALUE, Integer.MAX_VALUE};
        for (int k : none) {
            due.no("lose " + k, x.lose(k));
        }
        x.call(0);
        x.call(3);
        x.deliver(0);
        x.call(5);
        due.no("behind the last", x.lose(3));
        due.no("before the first", x.lose(-1));
        due.same("nothing is gone", x.flight(), 3);
        due.yes("the middle one", x.lose(1));
        due.same("one is gone", x.flight(), 2);
        due.callRecord("first", x, 0, 1, 3);
        due.callRecord("last", x, 1, 2, 5);
        due.same("it was not accepted", x.status(0), OnceWire.PENDING);
        due.same("the side goes with the message", x.deliver(1), OnceWire.NOPROCEDURE);
        due.yes("the last", x.lose(1));
        due.yes("the first", x.lose(0));
        due.no("none left", x.lose(0));
        due.same("the server got none", x.runs(), 1);
        due.end();
    }
}
