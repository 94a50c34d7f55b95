/** Terms: format 1, written and read. */
public final class WordFormatTest {
    private static final Due DUE = new Due();

    public static void main(String[] args) {
        written();
        read();
        noFields();
        DUE.end();
    }

    private static OnceWire three() {
        OnceWire x = new OnceWire(1);
        x.field(9, 3, false);
        x.field(4, 2, true);
        x.field(2, 1, false);
        return x;
    }

    private static void written() {
        OnceWire x = three();
        x.call(0);
        DUE.callRecord("zeros are written", x, 0, 0, 0, Wire.words(0, 0, 0));
        x.put(0, 1);
        x.put(1, 0x01020304);
        x.put(1, 0);
        x.put(2, -2);
        x.call(0);
        DUE.callRecord("ints", x, 1, 1, 0, Wire.words(1, 2, 0x01020304, 0, -2));
    }

    private static void said(String what, int want, int... body) {
        OnceWire x = three();
        DUE.same(what, Wire.handCall(x, 0, 1, body), want);
        DUE.same(what + ": runs", x.runs(), want == OnceWire.RAN ? 1 : 0);
    }

    private static void read() {
        DUE.same("digest", Wire.digest(three(), 0, Wire.words(1, 2, 5, 6, 7)),
                (((31 + 2) * 31 + 5) * 31 + 6) * 31 + 7);
        said("four ints", OnceWire.RAN, Wire.words(0, 4, 1, 2, 3, 4, 9));
        said("five ints", OnceWire.GARBAGE, Wire.words(0, 5, 1, 2, 3, 4, 5, 9));
        said("-1 ints", OnceWire.GARBAGE, Wire.words(0, -1, 9));
        said("-2^31 ints", OnceWire.GARBAGE, Wire.words(0, Integer.MIN_VALUE, 9));
        said("flag 2", OnceWire.GARBAGE, Wire.words(2, 0, 9));
        said("flag -1", OnceWire.GARBAGE, Wire.words(-1, 0, 9));
        said("flag 256", OnceWire.GARBAGE, Wire.words(256, 0, 9));
        said("a word left", OnceWire.GARBAGE, Wire.words(0, 0, 9, 0));
        said("a byte left", OnceWire.GARBAGE, Wire.join(Wire.words(0, 0, 9), new int[] {0}));
        said("a word missing", OnceWire.GARBAGE, Wire.words(0, 0));
        said("an int missing", OnceWire.GARBAGE, Wire.words(0, 2, 9));
        said("a byte missing", OnceWire.GARBAGE, Wire.join(Wire.words(0, 0), new int[] {0, 0, 9}));
        said("a count cut short", OnceWire.GARBAGE, Wire.join(Wire.words(0), new int[] {0, 0, 0}));
        said("nothing", OnceWire.GARBAGE);
        OnceWire x = new OnceWire(1);
        x.field(1, 3, true);
        DUE.same("flags", Wire.handCall(x, 0, 1, Wire.words(2, 1, 0)), OnceWire.RAN);
        DUE.same("flags with a 2", Wire.handCall(x, 1, 1, Wire.words(2, 1, 2)), OnceWire.GARBAGE);
    }

    private static void noFields() {
        OnceWire x = new OnceWire(1);
        DUE.same("nothing", Wire.handCall(x, 0, 3), OnceWire.RAN);
        DUE.same("a byte", Wire.handCall(x, 1, 3, 0), OnceWire.GARBAGE);
    }
}
