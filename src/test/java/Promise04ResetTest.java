/** Promise 4: reset empties the draft value, and nothing else. */
public final class Promise04ResetTest {
    public static void main(String[] args) {
        Due due = new Due();
        OnceWire x = new OnceWire(1);
        x.reset();
        x.field(1, 0, false);
        x.field(2, 1, true);
        x.field(3, 3, false);
        x.field(4, 2, true);
        x.put(0, 5);
        for (int i = 0; i < 4; i++) {
            x.put(1, 6);
            x.put(3, 7);
        }
        x.put(2, 1);
        x.call(1);
        x.add(1);
        x.reset();
        x.call(1);
        due.callRecord("after reset", x, 1, 1, 1, Wire.words(0, 0, 0, 0));
        due.yes("a list has room again", x.put(1, -8));
        x.call(1);
        due.callRecord("put after reset", x, 2, 2, 1, Wire.words(0, 1, -8, 0, 0));
        due.same("the schema stays", x.field(4, 0, false), OnceWire.BAD);
        due.same("calls stay", x.status(0), OnceWire.PENDING);
        due.same("messages stay", x.flight(), 3);
        due.callRecord("a message's bytes stay", x, 0, 0, 1,
                Wire.words(5, 4, 6, 6, 6, 6, 1, 4, 7, 7, 7, 7));
        for (int i = 1; i < 200; i++) {
            x.add(1);
        }
        due.no("draft bytes stay", x.add(1));
        due.end();
    }
}
