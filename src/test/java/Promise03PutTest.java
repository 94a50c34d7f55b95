/** Promise 3: put replaces single ints, lengthens lists up to four, and keeps FLAGs to 0 and 1. */
public final class Promise03PutTest {
    private static final Due DUE = new Due();
    private static final int[] INTS = {0, 1, -1, 2, 127, 128, Integer.MIN_VALUE, Integer.MAX_VALUE};

    public static void main(String[] args) {
        singles();
        lists();
        noSuchField();
        flags();
        fullLists();
        DUE.end();
    }

    private static OnceWire one(int kind, boolean repeated) {
        OnceWire x = new OnceWire(1);
        x.field(1, kind, repeated);
        return x;
    }

    private static void refused(String what, boolean crammed, int f, int v) {
        for (int format = 0; format < 2; format++) {
            int form = format;
            DUE.no(what, (crammed ? Pasts.crammed(form) : Pasts.busy(form)).put(f, v));
            new Trace(() -> crammed ? Pasts.crammed(form) : Pasts.busy(form))
                    .none(DUE, what, x -> x.put(f, v));
        }
    }

    private static void singles() {
        DUE.of("The DRAFT VALUE's field with index f: a single field's int becomes v,");
        for (int kind = 0; kind < 3; kind++) {
            for (int v : INTS) {
                OnceWire x = one(kind, false);
                DUE.yes("put", x.put(0, 77));
                DUE.yes("put again", x.put(0, v));
                x.call(0);
                DUE.callRecord("the last one", x, 0, 0, 0, Wire.words(v));
            }
            OnceWire many = one(kind, false);
            for (int i = 0; i < 9; i++) {
                DUE.yes("any number of times", many.put(0, i));
            }
        }
        OnceWire flag = one(3, false);
        DUE.yes("flag 1", flag.put(0, 1));
        flag.call(0);
        DUE.callRecord("flag 1", flag, 0, 0, 0, Wire.words(1));
        DUE.yes("flag 0", flag.put(0, 0));
        flag.call(0);
        DUE.callRecord("flag 0", flag, 1, 1, 0, Wire.words(0));
    }

    private static void lists() {
        DUE.of("a repeated field gets v as one more int at the end.");
        for (int kind = 0; kind < 4; kind++) {
            OnceWire x = one(kind, true);
            int[] ints = {1, 0, 1, 1};
            int[] body = {};
            for (int i = 0; i < 4; i++) {
                DUE.yes("put", x.put(0, ints[i]));
                body = Wire.join(body, Wire.word(ints[i]));
                x.call(0);
                DUE.callRecord(i + 1 + " ints", x, i, i, 0, Wire.join(Wire.word(i + 1), body));
            }
        }
        OnceWire x = one(1, true);
        x.field(2, 0, true);
        x.put(1, 9);
        int[] edges = {Integer.MIN_VALUE, -1, Integer.MAX_VALUE};
        for (int v : edges) {
            x.put(0, v);
        }
        x.call(0);
        DUE.callRecord("each list has its own", x, 0, 0, 0,
                Wire.words(3, Integer.MIN_VALUE, -1, Integer.MAX_VALUE, 1, 9));
    }

    private static void noSuchField() {
        DUE.of("False, changing nothing, when there is no such field,");
        int[] none = {-1, 3, 4, 5, 16, Integer.MIN_VALUE, Integer.MAX_VALUE};
        for (int f : none) {
            refused("field " + f, false, f, 0);
            refused("field " + f, false, f, 1);
        }
        refused("field 4 of four", true, 4, 0);
        refused("field -1 of four", true, -1, 0);
        DUE.yes("field 0 of three", Pasts.busy(0).put(0, 0));
        DUE.yes("field 2 of three", Pasts.busy(0).put(2, 0));
        OnceWire x = new OnceWire(0);
        DUE.no("before it is declared", x.put(0, 5));
        x.field(1, 0, false);
        x.call(0);
        DUE.callRecord("it left nothing for later", x, 0, 0, 0);
        DUE.no("the one behind it", x.put(1, 5));
        x.field(2, 0, true);
        x.call(0);
        DUE.callRecord("it left nothing for later", x, 1, 1, 0);
    }

    private static void flags() {
        DUE.of("it is a FLAG and v is neither 0 nor 1,");
        int[] wrong = {-1, 2, 3, 255, 256, 257, Integer.MIN_VALUE, Integer.MIN_VALUE + 1, Integer.MAX_VALUE};
        for (int v : wrong) {
            refused("single flag " + v, true, 2, v);
            refused("repeated flag " + v, false, 2, v);
            refused("repeated flag " + v + ", full", true, 3, v);
            DUE.yes("no flag", Pasts.busy(0).put(1, v));
        }
        for (int v = 0; v <= 1; v++) {
            DUE.yes("single flag " + v, Pasts.crammed(0).put(2, v));
            DUE.yes("repeated flag " + v, Pasts.busy(0).put(2, v));
        }
    }

    private static void fullLists() {
        DUE.of("or it is repeated and has four ints.");
        for (int kind = 0; kind < 4; kind++) {
            OnceWire x = one(kind, true);
            for (int i = 0; i < 4; i++) {
                DUE.yes("int " + i, x.put(0, 1));
            }
            DUE.no("a fifth", x.put(0, 1));
            DUE.no("a fifth of 0", x.put(0, 0));
            x.call(0);
            DUE.callRecord("four", x, 0, 0, 0, Wire.words(4, 1, 1, 1, 1));
            x.field(2, kind, true);
            DUE.yes("another list has room", x.put(1, 1));
            DUE.no("this one still has none", x.put(0, 1));
        }
        for (int v : INTS) {
            refused("a fifth", true, 1, v);
        }
        refused("a fifth flag", true, 3, 0);
        refused("a fifth flag", true, 3, 1);
        DUE.yes("a single one has room", Pasts.crammed(0).put(0, 1));
    }
}
