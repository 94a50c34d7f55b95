/** Counts answers that are not the ones that are due, and ends the test accordingly. */
final class Due {
    private int wrong = 0;
    private String sentence = "";
    private int looked = 0;

    /** The words of the document by which the answers that follow are due. */
    void of(String quote) {
        lookedAtAll();
        sentence = quote;
        looked = 0;
    }

    private void lookedAtAll() {
        if (!sentence.isEmpty() && looked == 0) {
            wrong("no answer was looked at");
        }
    }

    void same(String what, long got, long want) {
        looked++;
        if (got != want) {
            wrong(what + " answered " + got + ", due is " + want);
        }
    }

    void yes(String what, boolean got) {
        same(what, got ? 1 : 0, 1);
    }

    void no(String what, boolean got) {
        same(what, got ? 1 : 0, 0);
    }

    /** What happened shows by none of the questions asked after it. */
    void noTrace(String what, String shownBy) {
        looked++;
        if (!shownBy.isEmpty()) {
            wrong(what + " changed what is shown by: " + shownBy);
        }
    }

    void wrong(String what) {
        wrong++;
        System.out.println(what + (sentence.isEmpty() ? "" : "\n  by: " + sentence));
    }

    void bytes(String what, OnceWire x, int k, int... want) {
        same(what + ": size", x.size(k), want.length);
        for (int i = 0; i < want.length; i++) {
            same(what + ": byte " + i, x.byteAt(k, i), want[i]);
        }
    }

    /** What the message of the record has to look like, header words and body bytes given. */
    void callRecord(String what, OnceWire x, int k, int xid, int procedure, int... body) {
        bytes(what, x, k, Wire.message(Wire.record(xid, 0, procedure, body)));
    }

    /** The same for a reply; the result is given for status 0 alone. */
    void replyRecord(String what, OnceWire x, int k, int xid, int status, int... result) {
        bytes(what, x, k, Wire.message(Wire.record(xid, 1, status, Wire.words(result))));
    }

    void end() {
        lookedAtAll();
        if (wrong != 0) {
            System.out.println(wrong + " answers are not as due");
            System.exit(1);
        }
    }
}
