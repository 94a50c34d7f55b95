/** Promise 2: field answers indices, BAD before FULL, and wrong ones change nothing. */
public final class Promise02FieldTest {
    public static void main(String[] args) {
        Due due = new Due();
        OnceWire x = new OnceWire(1);
        int[] badNumbers = {0, 31, -1, Integer.MIN_VALUE, Integer.MAX_VALUE};
        for (int number : badNumbers) {
            due.same("number " + number, x.field(number, 0, false), OnceWire.BAD);
        }
        int[] badKinds = {-1, 4, Integer.MIN_VALUE, Integer.MAX_VALUE};
        for (int kind : badKinds) {
            due.same("kind " + kind, x.field(1, kind, false), OnceWire.BAD);
        }
        due.same("lowest number", x.field(1, 0, false), 0);
        due.same("number there", x.field(1, 1, true), OnceWire.BAD);
        due.same("highest number", x.field(30, 1, true), 1);
        due.same("number there", x.field(30, 1, true), OnceWire.BAD);
        due.same("third", x.field(7, 2, false), 2);
        due.same("last kind", x.field(8, 3, true), 3);
        due.same("fifth", x.field(9, 0, false), OnceWire.FULL);
        due.same("fifth, number there", x.field(8, 0, false), OnceWire.BAD);
        due.same("fifth, bad number", x.field(31, 0, false), OnceWire.BAD);
        due.same("fifth, bad kind", x.field(9, 4, false), OnceWire.BAD);
        due.no("put to a fifth", x.put(4, 0));
        x.call(0);
        due.callRecord("four fields", x, 0, 0, 0, Wire.words(0, 0, 0, 0));
        growing(due);
        due.end();
    }

    /** The draft value gets a new field; bytes are read by the schema as it is then. */
    private static void growing(Due due) {
        OnceWire x = new OnceWire(0);
        x.field(3, 0, true);
        x.put(0, 9);
        x.call(2);
        x.field(2, 0, false);
        x.call(2);
        due.callRecord("draft value with a new field of 0", x, 1, 1, 2, 24, 9);
        due.same("deliver", x.deliver(0), OnceWire.RAN);
        due.same("old bytes by the new schema", x.total(), (31 + 9) * 31);
        OnceWire y = new OnceWire(0);
        y.field(1, 0, false);
        due.same("unknown field", Wire.digest(y, 1, 8, 4, 16, 5), 4);
        y.field(2, 0, false);
        due.same("known field", Wire.digest(y, 2, 8, 4, 16, 5), 4 * 31 + 5);
    }
}
