/** Terms: the fragments of a message, as both sides read them. */
public final class FragmentsTest {
    private static final Due DUE = new Due();
    private static final int[] CALL = Wire.record(0, 0, 3);
    private static final int LAST = Integer.MIN_VALUE;

    public static void main(String[] args) {
        said("one", OnceWire.RAN, Wire.oneFragment(CALL));
        said("empty ones among others", OnceWire.RAN, Wire.join(Wire.words(0, 0, 8), words(0, 0),
                Wire.words(0, 4), words(3), Wire.words(0, LAST)));
        said("one byte each", OnceWire.RAN, singles());
        said("more than sixteen", OnceWire.RAN, Wire.oneFragment(Wire.join(CALL, words(0x0A060000),
                words(0))));
        said("none", OnceWire.BROKEN);
        said("a word cut short", OnceWire.BROKEN, 128, 0, 0);
        said("an empty last one alone", OnceWire.BROKEN, Wire.words(LAST));
        said("no last one", OnceWire.BROKEN, Wire.join(Wire.words(12), CALL));
        said("no last one, empty ones", OnceWire.BROKEN, Wire.words(0, 0, 0));
        said("a byte left", OnceWire.BROKEN, Wire.join(Wire.oneFragment(CALL), new int[] {0}));
        said("a fragment left", OnceWire.BROKEN, Wire.join(Wire.oneFragment(CALL), Wire.words(LAST)));
        said("a byte missing", OnceWire.BROKEN, Wire.join(Wire.words(LAST + 13), CALL));
        said("2^31 - 1 bytes", OnceWire.BROKEN, Wire.join(Wire.words(Integer.MAX_VALUE), CALL));
        said("2^31 - 1 bytes, last", OnceWire.BROKEN, Wire.join(Wire.words(-1), CALL));
        said("a whole one, then one cut short", OnceWire.BROKEN,
                Wire.join(Wire.words(12), CALL, Wire.words(LAST + 1)));
        said("half a second word", OnceWire.BROKEN,
                Wire.join(Wire.words(12), CALL, new int[] {128, 0}));
        said("eleven bytes", OnceWire.BROKEN, Wire.join(Wire.words(LAST + 11),
                java.util.Arrays.copyOf(CALL, 11)));
        DUE.end();
    }

    private static int[] words(int... ws) {
        return Wire.words(ws);
    }

    private static int[] singles() {
        int[] all = {};
        for (int b : CALL) {
            all = Wire.join(all, words(1), new int[] {b});
        }
        return Wire.join(all, words(LAST));
    }

    private static void said(String what, int want, int... message) {
        OnceWire x = new OnceWire(0);
        DUE.same(what + ", to the server", Wire.hand(x, true, message), want);
        DUE.same(what + ": runs", x.runs(), want == OnceWire.RAN ? 1 : 0);
        int atClient = want == OnceWire.RAN ? OnceWire.WRONG : OnceWire.BROKEN;
        DUE.same(what + ", to the client", Wire.hand(x, false, message), atClient);
    }
}
