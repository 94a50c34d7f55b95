/** Promise 2: field answers indices, BAD before FULL, and refused ones change nothing. */
public final class Promise02FieldTest {
    private static final Due DUE = new Due();

    public static void main(String[] args) {
        indices();
        badNumbers();
        badKinds();
        numberThere();
        full();
        badBeforeFull();
        DUE.end();
    }

    private static void refused(String what, boolean crammed, int want, int number, int kind) {
        for (int format = 0; format < 2; format++) {
            int f = format;
            Trace trace = new Trace(() -> crammed ? Pasts.crammed(f) : Pasts.busy(f));
            for (int r = 0; r < 2; r++) {
                boolean repeated = r == 1;
                OnceWire x = crammed ? Pasts.crammed(f) : Pasts.busy(f);
                DUE.same(what, x.field(number, kind, repeated), want);
                trace.none(DUE, what, y -> y.field(number, kind, repeated));
            }
        }
    }

    private static void indices() {
        DUE.of("Declares a field: its index.");
        for (int number = 1; number <= 27; number++) {
            OnceWire x = new OnceWire(number % 2);
            for (int f = 0; f < 4; f++) {
                DUE.same("number " + (number + f), x.field(number + f, f, f % 2 == 0), f);
            }
        }
        for (int kind = 0; kind < 4; kind++) {
            DUE.same("kind " + kind, new OnceWire(0).field(1, kind, false), 0);
            DUE.same("kind " + kind, new OnceWire(0).field(1, kind, true), 0);
        }
        OnceWire x = new OnceWire(1);
        DUE.same("first", x.field(30, 0, false), 0);
        DUE.same("second", x.field(1, 1, true), 1);
        x.put(0, 5);
        x.put(1, 6);
        x.call(0);
        DUE.callRecord("they are there", x, 0, 0, 0, Wire.words(5, 1, 6));
    }

    private static void badNumbers() {
        DUE.of("BAD, changing nothing, when number is not 1 .. 30,");
        int[] bad = {0, 31, -1, 32, -30, 257, Integer.MIN_VALUE, Integer.MIN_VALUE + 1, Integer.MAX_VALUE};
        for (int number : bad) {
            DUE.same("number " + number, new OnceWire(0).field(number, 0, false), OnceWire.BAD);
            refused("number " + number, false, OnceWire.BAD, number, 0);
        }
        DUE.same("number 1", new OnceWire(0).field(1, 0, false), 0);
        DUE.same("number 2", new OnceWire(0).field(2, 0, false), 0);
        DUE.same("number 29", new OnceWire(0).field(29, 0, false), 0);
        DUE.same("number 30", new OnceWire(0).field(30, 0, false), 0);
    }

    private static void badKinds() {
        DUE.of("kind is not 0 .. 3,");
        int[] bad = {-1, 4, 5, 256, Integer.MIN_VALUE, Integer.MAX_VALUE};
        for (int kind : bad) {
            DUE.same("kind " + kind, new OnceWire(0).field(1, kind, false), OnceWire.BAD);
            refused("kind " + kind, false, OnceWire.BAD, 1, kind);
            refused("kind " + kind + ", number too", false, OnceWire.BAD, 0, kind);
        }
        for (int kind = 0; kind <= 3; kind++) {
            DUE.same("kind " + kind, Pasts.busy(0).field(1, kind, true), 3);
        }
    }

    private static void numberThere() {
        DUE.of("or a field has that number already;");
        int[] there = {2, 16, 30};
        for (int number : there) {
            for (int kind = 0; kind < 4; kind++) {
                refused("number " + number + " is there", false, OnceWire.BAD, number, kind);
            }
        }
        int[] beside = {1, 3, 15, 17, 29};
        for (int number : beside) {
            DUE.same("number " + number, Pasts.busy(0).field(number, 0, false), 3);
        }
        OnceWire x = new OnceWire(0);
        DUE.same("refused before", x.field(9, 4, false), OnceWire.BAD);
        DUE.same("so it is not there", x.field(9, 3, false), 0);
        DUE.same("now it is", x.field(9, 3, false), OnceWire.BAD);
    }

    private static void full() {
        DUE.of("FULL, changing nothing, when there are four fields");
        OnceWire x = new OnceWire(0);
        for (int f = 0; f < 4; f++) {
            DUE.same("field " + f, x.field(f + 1, 0, false), f);
        }
        DUE.same("a fifth", x.field(5, 0, false), OnceWire.FULL);
        DUE.same("a fifth again", x.field(5, 0, false), OnceWire.FULL);
        for (int kind = 0; kind < 4; kind++) {
            refused("a fifth", true, OnceWire.FULL, 2, kind);
            refused("a fifth", true, OnceWire.FULL, 29, kind);
        }
    }

    private static void badBeforeFull() {
        DUE.of("(BAD is tested first).");
        int[] numbers = {0, 31, -1, Integer.MIN_VALUE, Integer.MAX_VALUE};
        for (int number : numbers) {
            refused("number " + number, true, OnceWire.BAD, number, 0);
        }
        refused("kind -1", true, OnceWire.BAD, 2, -1);
        refused("kind 4", true, OnceWire.BAD, 2, 4);
        int[] there = {30, 16, 7, 1};
        for (int number : there) {
            refused("number " + number + " is there", true, OnceWire.BAD, number, 0);
        }
    }
}
