/** Terms: bytes and words, the schema and its fields, and values. */
public final class ValueTest {
    private static final Due DUE = new Due();

    public static void main(String[] args) {
        words();
        fourFields();
        kinds();
        wires();
        values();
        listsOfFour();
        flags();
        growing();
        growingWhileOnTheWay();
        DUE.end();
    }

    private static void words() {
        DUE.of("A BYTE is 0 .. 255; a WORD is an int as four bytes, the highest first.");
        int[] edges = {0, 1, 255, 256, 0x01020304, 0x80000000, 0x7FFFFFFF, -1, -256};
        for (int v : edges) {
            OnceWire x = new OnceWire(1);
            x.field(1, 0, false);
            x.put(0, v);
            x.call(2);
            DUE.same("highest byte of " + v, x.byteAt(0, 20 - 4), (v >> 24) & 255);
            DUE.same("second byte of " + v, x.byteAt(0, 20 - 3), (v >> 16) & 255);
            DUE.same("third byte of " + v, x.byteAt(0, 20 - 2), (v >> 8) & 255);
            DUE.same("lowest byte of " + v, x.byteAt(0, 20 - 1), v & 255);
            DUE.same("read back", x.deliver(0), OnceWire.RAN);
            DUE.same("read back", x.total(), v);
        }
        OnceWire x = new OnceWire(0);
        DUE.no("byte -1", x.add(-1));
        DUE.yes("byte 0", x.add(0));
        DUE.yes("byte 255", x.add(255));
        DUE.no("byte 256", x.add(256));
    }

    private static void fourFields() {
        DUE.of("The SCHEMA has at most four FIELDS, with indices 0, 1, .. in the order in which they"
                + " were declared.");
        OnceWire x = new OnceWire(1);
        int[] numbers = {30, 2, 17, 1};
        for (int f = 0; f < 4; f++) {
            DUE.no("put before field " + f, x.put(f, f + 1));
            DUE.same("field " + f, x.field(numbers[f], f % 3, false), f);
            DUE.yes("put to field " + f, x.put(f, f + 1));
            DUE.no("put behind field " + f, x.put(f + 1, 9));
        }
        DUE.same("a fifth", x.field(5, 0, false), OnceWire.FULL);
        DUE.no("put to a fifth", x.put(4, 9));
        x.call(0);
        DUE.callRecord("in the order of declaring", x, 0, 0, 0, Wire.words(1, 2, 3, 4));
    }

    private static void kinds() {
        DUE.of("A field has a NUMBER, a KIND (COUNT 0, SIGNED 1, FIXED 2, FLAG 3), and is SINGLE or"
                + " REPEATED.");
        int[][] entries = {{40, 1}, {40, 2}, {45, 1, 0, 0, 0}, {40, 1}};
        for (int kind = 0; kind < 4; kind++) {
            OnceWire single = new OnceWire(0);
            OnceWire repeated = new OnceWire(0);
            single.field(5, kind, false);
            repeated.field(5, kind, true);
            for (int i = 0; i < 2; i++) {
                DUE.yes("put", single.put(0, 1));
                DUE.yes("put", repeated.put(0, 1));
            }
            single.call(0);
            repeated.call(0);
            DUE.callRecord("kind " + kind + ", single", single, 0, 0, 0, entries[kind]);
            DUE.callRecord("kind " + kind + ", repeated", repeated, 0, 0, 0,
                    Wire.times(2, entries[kind]));
        }
    }

    private static void wires() {
        DUE.of("The WIRE of a kind is 5 for FIXED and 0 for the others.");
        for (int kind = 0; kind < 4; kind++) {
            OnceWire x = new OnceWire(0);
            x.field(1, kind, false);
            x.put(0, 1);
            x.call(0);
            DUE.same("wire of kind " + kind, x.byteAt(0, 16), 8 + (kind == 2 ? 5 : 0));
            DUE.same("a varint", Wire.digest(x, 1, 8, 1), kind == 2 ? 0 : kind == 1 ? -1 : 1);
            DUE.same("four bytes", Wire.digest(x, 2, 13, 1, 0, 0, 0), kind == 2 ? 1 : 0);
        }
    }

    private static void values() {
        DUE.of("A VALUE gives every single field one int (0, if nothing else is said), every repeated"
                + " field a list of 0 to 4 ints (the empty one, if nothing else is said); ints of FLAGs"
                + " are 0 or 1.");
        for (int kind = 0; kind < 4; kind++) {
            OnceWire x = new OnceWire(1);
            x.field(1, kind, false);
            x.field(2, kind, true);
            x.call(2);
            DUE.callRecord("nothing was said", x, 0, 0, 2, Wire.words(0, 0));
            OnceWire y = new OnceWire(0);
            y.field(1, kind, false);
            y.field(2, kind, true);
            y.call(2);
            DUE.callRecord("nothing was said", y, 0, 0, 2);
            DUE.same("nothing was said", y.deliver(0), OnceWire.RAN);
            DUE.same("nothing was said", y.total(), 0);
        }
    }

    private static void listsOfFour() {
        for (int count = 0; count <= 5; count++) {
            OnceWire x = new OnceWire(1);
            x.field(1, 0, true);
            for (int i = 0; i < count; i++) {
                DUE.same("int " + i, x.put(0, 7) ? 1 : 0, i < 4 ? 1 : 0);
            }
            x.call(2);
            int kept = Math.min(count, 4);
            DUE.callRecord(count + " ints", x, 0, 0, 2,
                    Wire.join(Wire.word(kept), Wire.times(kept, Wire.word(7))));
            DUE.same(count + " ints", x.deliver(0), OnceWire.RAN);
        }
    }

    private static void flags() {
        for (int v = -1; v <= 2; v++) {
            boolean flag = v == 0 || v == 1;
            OnceWire x = new OnceWire(1);
            x.field(1, 3, false);
            x.field(2, 3, true);
            DUE.same("single flag " + v, x.put(0, v) ? 1 : 0, flag ? 1 : 0);
            DUE.same("repeated flag " + v, x.put(1, v) ? 1 : 0, flag ? 1 : 0);
            DUE.same("single flag read " + v, Wire.handCall(x, 1, 0, Wire.words(v, 0)),
                    flag ? OnceWire.RAN : OnceWire.GARBAGE);
            DUE.same("repeated flag read " + v, Wire.handCall(x, 2, 0, Wire.words(0, 1, v)),
                    flag ? OnceWire.RAN : OnceWire.GARBAGE);
        }
    }

    private static void growing() {
        DUE.of("The schema may grow at any time; values that are there get the new field too, and"
                + " bytes are always read by the schema as it is at that time.");
        OnceWire x = new OnceWire(1);
        x.field(3, 0, true);
        x.put(0, 9);
        x.field(2, 1, false);
        x.call(0);
        DUE.callRecord("the draft value has a new single one", x, 0, 0, 0, Wire.words(1, 9, 0));
        x.put(1, -4);
        x.field(1, 2, true);
        x.call(0);
        DUE.callRecord("the draft value has a new list", x, 1, 1, 0, Wire.words(1, 9, -4, 0));
        DUE.yes("it can be put to", x.put(2, 6));
        x.field(4, 3, false);
        x.call(0);
        DUE.callRecord("a fourth field", x, 2, 2, 0, Wire.words(1, 9, -4, 1, 6, 0));
    }

    private static void growingWhileOnTheWay() {
        OnceWire x = new OnceWire(0);
        x.field(3, 0, true);
        x.put(0, 9);
        x.call(2);
        x.copy(0);
        DUE.same("before", x.deliver(0), OnceWire.RAN);
        DUE.same("before", x.total(), 31 + 9);
        x.field(2, 0, false);
        DUE.same("a reply is remembered as it is", x.deliver(0), OnceWire.AGAIN);
        x.tick();
        x.tick();
        x.tick();
        DUE.callRecord("a call is sent again as it was", x, 2, 0, 2, 24, 9);
        DUE.same("read by two fields", Wire.digest(x, 50, 24, 9), (31 + 9) * 31);
        DUE.same("unknown yet", Wire.digest(x, 51, 24, 9, 8, 5), (31 + 9) * 31);
        x.field(1, 0, false);
        DUE.same("known now", Wire.digest(x, 52, 24, 9, 8, 5), (31 + 9) * 31 * 31 + 5);
        OnceWire y = new OnceWire(1);
        y.field(3, 0, false);
        y.call(1);
        y.call(1);
        DUE.same("before", y.deliver(0), OnceWire.RAN);
        y.field(4, 0, true);
        DUE.same("too short by now", y.deliver(0), OnceWire.GARBAGE);
    }
}
