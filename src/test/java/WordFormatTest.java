/** Terms: format 1, how its bodies are written and read. */
public final class WordFormatTest {
    private static final Due DUE = new Due();

    public static void main(String[] args) {
        written();
        read();
        flags();
        numbersOfInts();
        lengths();
        noFields();
        faultyLeavesNothing();
        DUE.end();
    }

    private static OnceWire three() {
        OnceWire x = new OnceWire(1);
        x.field(9, 3, false);
        x.field(4, 2, true);
        x.field(2, 1, false);
        return x;
    }

    private static OnceWire one(int kind, boolean repeated) {
        OnceWire x = new OnceWire(1);
        x.field(1, kind, repeated);
        return x;
    }

    private static void said(String what, OnceWire x, int want, int... body) {
        DUE.same(what, Wire.handCall(x, 0, 1, body), want);
        DUE.same(what + ": runs", x.runs(), want == OnceWire.RAN ? 1 : 0);
    }

    private static void written() {
        DUE.of("FORMAT 1. To write a value: for each field in order, a single one: its int as a word; a"
                + " repeated one: the number of its ints as a word, and each of them as a word.");
        OnceWire x = three();
        x.call(0);
        DUE.callRecord("zeros and an empty list", x, 0, 0, 0, Wire.words(0, 0, 0));
        x.put(2, -2);
        x.put(1, 0x01020304);
        x.put(1, 0);
        x.put(0, 1);
        x.call(0);
        DUE.callRecord("in the order of the indices", x, 1, 1, 0, Wire.words(1, 2, 0x01020304, 0, -2));
        x.put(1, 7);
        x.call(0);
        DUE.callRecord("three ints", x, 2, 2, 0, Wire.words(1, 3, 0x01020304, 0, 7, -2));
        x.put(1, 8);
        x.call(0);
        DUE.callRecord("four ints", x, 3, 3, 0, Wire.words(1, 4, 0x01020304, 0, 7, 8, -2));
        x.put(1, 9);
        x.call(0);
        DUE.callRecord("no fifth", x, 4, 4, 0, Wire.words(1, 4, 0x01020304, 0, 7, 8, -2));
        int[] edges = {0, 1, -1, Integer.MIN_VALUE, Integer.MAX_VALUE};
        for (int kind = 0; kind < 3; kind++) {
            for (int v : edges) {
                OnceWire single = one(kind, false);
                single.put(0, v);
                single.call(0);
                DUE.callRecord("kind " + kind, single, 0, 0, 0, Wire.words(v));
            }
        }
    }

    private static void read() {
        DUE.of("To read one from a body: the same;");
        DUE.same("digest", Wire.digest(three(), 0, Wire.words(1, 2, 5, 6, 7)),
                (((31 + 2) * 31 + 5) * 31 + 6) * 31 + 7);
        int[] edges = {0, 1, -1, Integer.MIN_VALUE, Integer.MAX_VALUE};
        for (int kind = 0; kind < 3; kind++) {
            for (int v : edges) {
                DUE.same("single", Wire.digest(one(kind, false), 0, Wire.words(v)), v);
                DUE.same("repeated", Wire.digest(one(kind, true), 0, Wire.words(1, v)), 31 + v);
            }
        }
    }

    private static void flags() {
        DUE.of("a FLAG must be 0 or 1,");
        int[] ints = {Integer.MIN_VALUE, -1, 0, 1, 2, 255, 256, 1 << 16, 1 << 24, Integer.MAX_VALUE};
        for (int v : ints) {
            int want = v == 0 || v == 1 ? OnceWire.RAN : OnceWire.GARBAGE;
            said("flag " + v, one(3, false), want, Wire.words(v));
            said("first flag " + v, one(3, true), want, Wire.words(4, v, 1, 0, 1));
            said("last flag " + v, one(3, true), want, Wire.words(4, 1, 0, 1, v));
            said("a flag before others, " + v, three(), want, Wire.words(v, 1, 5, 5));
            said("no flag " + v, one(0, false), OnceWire.RAN, Wire.words(v));
        }
    }

    private static void numbersOfInts() {
        DUE.of("a number of ints 0 .. 4,");
        for (int kind = 0; kind < 4; kind++) {
            for (int count = 0; count <= 6; count++) {
                int want = count <= 4 ? OnceWire.RAN : OnceWire.GARBAGE;
                said(count + " ints", one(kind, true), want,
                        Wire.join(Wire.word(count), Wire.times(count, Wire.word(1))));
            }
            int[] wrong = {-1, -4, Integer.MIN_VALUE, Integer.MIN_VALUE + 1, Integer.MAX_VALUE, 1 << 8,
                1 << 16, 1 << 24};
            for (int count : wrong) {
                for (int there = 0; there <= 4; there++) {
                    said(count + " ints", one(kind, true), OnceWire.GARBAGE,
                            Wire.join(Wire.word(count), Wire.times(there, Wire.word(1))));
                }
            }
        }
    }

    /** Every length of a body but the one that it has by its numbers of ints. */
    private static void lengths() {
        int[] body = Wire.words(1, 2, 0, 0, 0, 0, 0, 0);
        for (int length = 0; length <= body.length; length++) {
            if (length < 20) {
                DUE.of("words must not be cut short,");
            } else {
                DUE.of("and no byte may be left at the end; otherwise it is faulty.");
            }
            said(length + " bytes", three(), length == 20 ? OnceWire.RAN : OnceWire.GARBAGE,
                    Wire.first(length, body));
        }
        for (int length = 0; length <= 28; length++) {
            int want = length == 20 ? OnceWire.RAN : OnceWire.GARBAGE;
            said(length + " bytes of a list", one(0, true), want,
                    Wire.first(length, Wire.words(4, 1, 2, 3, 4, 5, 6)));
        }
        for (int length = 0; length <= 12; length++) {
            int want = length == 4 ? OnceWire.RAN : OnceWire.GARBAGE;
            said(length + " bytes of an int", one(1, false), want, Wire.first(length, Wire.words(4, 1, 2)));
            said(length + " bytes of no ints", one(1, true), want, Wire.first(length, Wire.words(0, 0, 0)));
        }
    }

    private static void noFields() {
        for (int length = 0; length <= 5; length++) {
            said(length + " bytes, no field", new OnceWire(1),
                    length == 0 ? OnceWire.RAN : OnceWire.GARBAGE, Wire.times(length, 0));
        }
    }

    private static void faultyLeavesNothing() {
        OnceWire x = new OnceWire(1);
        x.field(1, 0, true);
        x.field(2, 0, true);
        DUE.same("faulty at its end", Wire.handCall(x, 1, 1, Wire.words(4, 5, 5, 5, 5, 3, 5)),
                OnceWire.GARBAGE);
        DUE.same("none of it is in the next value", Wire.digest(x, 2, Wire.words(0, 0)), 0);
        DUE.same("whole", Wire.handCall(x, 3, 1, Wire.words(4, 5, 5, 5, 5, 1, 5)), OnceWire.RAN);
        DUE.same("none of it is in the next value", Wire.digest(x, 4, Wire.words(1, 6, 0)),
                (31 + 6) * 31);
    }
}
