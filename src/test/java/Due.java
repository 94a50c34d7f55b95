/** Counts answers that are not the ones that are due, and ends the test accordingly. */
final class Due {
    private int wrong = 0;

    void same(String what, long got, long want) {
        if (got != want) {
            wrong++;
            System.out.println(what + " answered " + got + ", due is " + want);
        }
    }

    void yes(String what, boolean got) {
        same(what, got ? 1 : 0, 1);
    }

    void no(String what, boolean got) {
        same(what, got ? 1 : 0, 0);
    }

    void bytes(String what, OnceWire x, int k, int... want) {
        same(what + ": size", x.size(k), want.length);
        for (int i = 0; i < want.length; i++) {
            same(what + ": byte " + i, x.byteAt(k, i), want[i]);
        }
    }

    /** What the message of the record has to look like, header words and body bytes given. */
    void callRecord(String what, OnceWire x, int k, int xid, int procedure, int... body) {
        bytes(what, x, k, Wire.message(Wire.record(xid, 0, procedure, body)));
    }

    void end() {
        if (wrong != 0) {
            System.out.println(wrong + " answers are not as due");
            System.exit(1);
        }
    }
}
