/** Promise 9: copy sends a message once more to the same side, up to sixteen in the line. */
public final class Promise09CopyTest {
    public static void main(String[] args) {
        Due due = new Due();
        OnceWire x = new OnceWire(1);
        int[] none = {0, -1, 1, Integer.MIN_VALUE, Integer.MAX_VALUE};
        for (int k : none) {
            due.no("copy " + k, x.copy(k));
        }
        x.field(1, 1, false);
        x.put(0, -9);
        x.call(1);
        x.call(200);
        due.no("behind the last", x.copy(2));
        due.yes("the first", x.copy(0));
        due.callRecord("it comes to the end", x, 2, 0, 1, Wire.words(-9));
        due.callRecord("it stays where it was", x, 0, 0, 1, Wire.words(-9));
        due.same("run the copy", x.deliver(2), OnceWire.RAN);
        due.same("the first", x.deliver(0), OnceWire.AGAIN);
        due.yes("a reply", x.copy(1));
        due.same("accept a copy", x.deliver(3), OnceWire.ACCEPTED);
        due.same("result", x.result(0), -9);
        for (int i = x.flight(); i < 16; i++) {
            due.yes("copy", x.copy(0));
        }
        due.no("sixteen are there", x.copy(0));
        due.no("sixteen are there", x.copy(15));
        due.same("flight", x.flight(), 16);
        x.lose(15);
        due.yes("room again", x.copy(14));
        due.end();
    }
}
