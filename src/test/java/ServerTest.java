/** Terms: what the server says, in which order it looks, and what it remembers. */
public final class ServerTest {
    private static final Due DUE = new Due();
    private static final int[] WORDS = {Integer.MIN_VALUE, -256, -1, 4, 5, 255, 256, 1 << 16, 1 << 24,
        Integer.MAX_VALUE};

    public static void main(String[] args) {
        atFirst();
        broken();
        wrong();
        again();
        againFirst();
        noProcedure();
        garbage();
        run();
        fourRemembered();
        orderOfForgetting();
        allAreRemembered();
        rememberedThoughLost();
        DUE.end();
    }

    private static void atFirst() {
        DUE.of("THE SERVER has a TOTAL, an int, at first 0, and REMEMBERS at most four replies with their"
                + " xids.");
        OnceWire x = new OnceWire(0);
        DUE.same("total", x.total(), 0);
        int[] xids = {0, -1, 1, Integer.MIN_VALUE, Integer.MAX_VALUE};
        for (int xid : xids) {
            DUE.same("nothing is remembered of " + xid, Wire.handCall(new OnceWire(0), xid, 3), OnceWire.RAN);
        }
        for (int count = 1; count <= 6; count++) {
            OnceWire y = new OnceWire(0);
            for (int xid = 0; xid < count; xid++) {
                Wire.handCall(y, xid, 0);
            }
            for (int xid = Math.max(0, count - 4); xid < count; xid++) {
                DUE.same(xid + " of " + count, Wire.handCall(y, xid, 0), OnceWire.AGAIN);
            }
            if (count > 4) {
                DUE.same("the fifth from the end of " + count, Wire.handCall(y, count - 5, 0), OnceWire.RAN);
            }
        }
    }

    private static int handRecord(OnceWire x, int... record) {
        return Wire.hand(x, true, Wire.oneFragment(record));
    }

    private static void broken() {
        DUE.of("It gets a message: when it is broken, or its record has fewer than twelve bytes, the answer"
                + " is BROKEN;");
        for (int format = 0; format < 2; format++) {
            int f = format;
            Trace running = new Trace(() -> Pasts.running(f));
            for (int mark = 0; mark < 2; mark++) {
                int[] record = Wire.record(0, mark, 4);
                for (int length = 0; length < 12; length++) {
                    int[] cut = Wire.first(length, record);
                    DUE.same(length + " bytes", handRecord(new OnceWire(f), cut), OnceWire.BROKEN);
                    running.none(DUE, "a record of " + length + " bytes", x -> handRecord(x, cut));
                }
            }
            DUE.same("12 bytes", handRecord(new OnceWire(f), Wire.record(0, 0, 4)), OnceWire.NOPROCEDURE);
            DUE.same("13 bytes", handRecord(new OnceWire(f), Wire.record(0, 0, 4, 0)), OnceWire.NOPROCEDURE);
            DUE.same("no bytes", new OnceWire(f).hand(true), OnceWire.BROKEN);
            running.none(DUE, "no bytes", x -> x.hand(true));
            int[] left = Wire.join(Wire.oneFragment(Wire.record(0, 0, 4)), Wire.bytes(0));
            DUE.same("a byte left", Wire.hand(new OnceWire(f), true, left), OnceWire.BROKEN);
            running.none(DUE, "a byte left", x -> Wire.hand(x, true, left));
        }
    }

    private static void wrong() {
        DUE.of("else when the second word is not 0, WRONG; nothing happens in both cases.");
        int[] marks = {Integer.MIN_VALUE, -1, 1, 2, 255, 256, 1 << 16, 1 << 24, Integer.MAX_VALUE};
        Trace running = new Trace(() -> Pasts.running(0));
        for (int mark : marks) {
            // The xids: remembered, not remembered; the last words: no procedure, and one.
            int[][] records = {Wire.record(0, mark, 1), Wire.record(1, mark, 9), Wire.record(8, mark, 3),
                Wire.record(8, mark, 3, 0)};
            for (int[] record : records) {
                DUE.same("second word " + mark, handRecord(Pasts.running(0), record), OnceWire.WRONG);
                running.none(DUE, "second word " + mark, x -> handRecord(x, record));
            }
        }
        DUE.same("second word 0", handRecord(Pasts.running(0), Wire.record(8, 0, 3)), OnceWire.RAN);
    }

    private static void again() {
        DUE.of("Else when it remembers a reply with that xid, it sends that one again, the same bytes:"
                + " AGAIN.");
        OnceWire x = new OnceWire(0);
        x.field(1, 0, false);
        int[] xids = {Integer.MIN_VALUE, -1, 0, Integer.MAX_VALUE};
        for (int i = 0; i < 4; i++) {
            DUE.same("run", Wire.handCall(x, xids[i], 1, 8, 5), OnceWire.RAN);
        }
        for (int i = 0; i < 4; i++) {
            DUE.same("again", Wire.handCall(x, xids[i], 1, 8, 5), OnceWire.AGAIN);
            DUE.replyRecord("the result of then", x, 4 + i, xids[i], 0, 5 * (i + 1));
        }
        DUE.same("not run again", x.total(), 20);
        DUE.same("not run again", x.runs(), 4);
        DUE.same("replies", x.flight(), 8);
        DUE.same("a near xid", Wire.handCall(x, 1, 3), OnceWire.RAN);
        DUE.same("a near xid", Wire.handCall(x, -2, 3), OnceWire.RAN);
    }

    /** What the call asks is not looked at when its reply is remembered. */
    private static void againFirst() {
        OnceWire x = new OnceWire(0);
        x.field(1, 0, false);
        DUE.same("no procedure", Wire.handCall(x, 1, 4), OnceWire.NOPROCEDURE);
        DUE.same("garbage", Wire.handCall(x, 2, 1, 8), OnceWire.GARBAGE);
        DUE.same("run", Wire.handCall(x, 3, 1, 8, 6), OnceWire.RAN);
        for (int xid = 1; xid < 4; xid++) {
            DUE.same("good", Wire.handCall(x, xid, 1, 8, 60), OnceWire.AGAIN);
            DUE.same("no procedure", Wire.handCall(x, xid, 4), OnceWire.AGAIN);
            DUE.same("garbage", Wire.handCall(x, xid, 1, 8), OnceWire.AGAIN);
            DUE.same("both", Wire.handCall(x, xid, -1, 8), OnceWire.AGAIN);
        }
        for (int i = 0; i < 4; i++) {
            DUE.replyRecord("no procedure", x, 3 + i, 1, 1);
            DUE.replyRecord("garbage", x, 7 + i, 2, 2);
            DUE.replyRecord("run", x, 11 + i, 3, 0, 6);
        }
        DUE.same("total", x.total(), 6);
    }

    private static void noProcedure() {
        DUE.of("Otherwise it makes a reply: when the procedure is not 0 .. 3, with status 1: NOPROCEDURE;");
        for (int procedure : WORDS) {
            OnceWire x = new OnceWire(0);
            x.field(1, 0, false);
            DUE.same("procedure " + procedure, Wire.handCall(x, 7, procedure, 8, 5), OnceWire.NOPROCEDURE);
            DUE.replyRecord("procedure " + procedure, x, 0, 7, 1);
            DUE.same("faulty too", Wire.handCall(x, 8, procedure, 8), OnceWire.NOPROCEDURE);
            DUE.replyRecord("faulty too", x, 1, 8, 1);
            DUE.same("total", x.total(), 0);
            DUE.same("runs", x.runs(), 0);
        }
        for (int procedure = 0; procedure <= 3; procedure++) {
            DUE.same("procedure " + procedure, Wire.handCall(new OnceWire(0), 7, procedure), OnceWire.RAN);
        }
    }

    private static void garbage() {
        DUE.of("else when the body is faulty, with status 2: GARBAGE;");
        for (int procedure = 0; procedure <= 3; procedure++) {
            for (int format = 0; format < 2; format++) {
                OnceWire x = new OnceWire(format);
                x.field(1, 0, false);
                DUE.same("one byte", Wire.handCall(x, 7, procedure, 8), OnceWire.GARBAGE);
                DUE.replyRecord("one byte", x, 0, 7, 2);
                DUE.same("total", x.total(), 0);
                DUE.same("runs", x.runs(), 0);
                int[] whole = format == 0 ? Wire.bytes(8, 0) : Wire.words(0);
                DUE.same("whole", Wire.handCall(x, 8, procedure, whole), OnceWire.RAN);
            }
        }
    }

    private static void run() {
        DUE.of("else the procedure is RUN, and the reply has status 0 and its result: RAN.");
        OnceWire x = new OnceWire(0);
        x.field(1, 0, false);
        int[] procedures = {1, 1, 2, 3, 0};
        int[] results = {9, 18, 18, 9, 0};
        int[] totals = {9, 18, 9, 9, 9};
        for (int i = 0; i < procedures.length; i++) {
            DUE.same("run", Wire.handCall(x, i, procedures[i], 8, 9), OnceWire.RAN);
            DUE.replyRecord("procedure " + procedures[i], x, i, i, 0, results[i]);
            DUE.same("total", x.total(), totals[i]);
            DUE.same("runs", x.runs(), i + 1);
        }
    }

    private static void fourRemembered() {
        DUE.of("The reply is remembered (when four are remembered, the one that was remembered first is"
                + " forgotten) and sent.");
        for (int newer = 0; newer <= 6; newer++) {
            OnceWire x = new OnceWire(0);
            Wire.handCall(x, 7, 0);
            for (int i = 0; i < newer; i++) {
                DUE.same("a newer one", Wire.handCall(x, 100 + i, 0), OnceWire.RAN);
                DUE.same("it is sent", x.flight(), i + 2);
            }
            DUE.same("after " + newer + " newer ones", Wire.handCall(x, 7, 0),
                    newer < 4 ? OnceWire.AGAIN : OnceWire.RAN);
        }
    }

    /** What is asked for again is not younger by that; what was forgotten and made anew is. */
    private static void orderOfForgetting() {
        OnceWire x = new OnceWire(0);
        for (int xid = 0; xid < 4; xid++) {
            DUE.same("run", Wire.handCall(x, xid, 3), OnceWire.RAN);
        }
        DUE.same("the first, again", Wire.handCall(x, 0, 3), OnceWire.AGAIN);
        DUE.same("a fifth", Wire.handCall(x, 4, 3), OnceWire.RAN);
        DUE.same("the second is remembered", Wire.handCall(x, 1, 3), OnceWire.AGAIN);
        DUE.same("the first is forgotten", Wire.handCall(x, 0, 3), OnceWire.RAN);
        DUE.same("the first is remembered anew", Wire.handCall(x, 0, 3), OnceWire.AGAIN);
        DUE.same("the second is forgotten by that", Wire.handCall(x, 1, 3), OnceWire.RAN);
        DUE.same("the fourth is remembered", Wire.handCall(x, 3, 3), OnceWire.AGAIN);
        DUE.same("the fifth is remembered", Wire.handCall(x, 4, 3), OnceWire.AGAIN);
        DUE.same("the third is forgotten", Wire.handCall(x, 2, 3), OnceWire.RAN);
        DUE.same("the fourth is forgotten by that", Wire.handCall(x, 3, 3), OnceWire.RAN);
        DUE.same("the first is remembered still", Wire.handCall(x, 0, 3), OnceWire.AGAIN);
    }

    /** Replies of every status are remembered, and make others forgotten. */
    private static void allAreRemembered() {
        OnceWire x = new OnceWire(0);
        DUE.same("run", Wire.handCall(x, 1, 0), OnceWire.RAN);
        DUE.same("no procedure", Wire.handCall(x, 2, 4), OnceWire.NOPROCEDURE);
        DUE.same("garbage", Wire.handCall(x, 3, 0, 0), OnceWire.GARBAGE);
        DUE.same("garbage", Wire.handCall(x, 4, 0, 0), OnceWire.GARBAGE);
        DUE.same("four", Wire.handCall(x, 1, 0), OnceWire.AGAIN);
        DUE.same("no procedure", Wire.handCall(x, 5, 4), OnceWire.NOPROCEDURE);
        DUE.same("the first is forgotten", Wire.handCall(x, 1, 0), OnceWire.RAN);
        DUE.same("the second is forgotten", Wire.handCall(x, 2, 0), OnceWire.RAN);
        DUE.same("the third is forgotten", Wire.handCall(x, 3, 0), OnceWire.RAN);
        DUE.same("runs", x.runs(), 4);
    }

    private static void rememberedThoughLost() {
        OnceWire x = new OnceWire(0);
        x.field(1, 0, false);
        x.call(0);
        for (int i = 0; i < 15; i++) {
            x.copy(0);
        }
        DUE.same("run", Wire.handCall(x, 9, 1, 8, 5), OnceWire.RAN);
        DUE.same("lost at once", x.flight(), 16);
        DUE.same("again", Wire.handCall(x, 9, 1, 8, 5), OnceWire.AGAIN);
        DUE.same("lost at once", x.flight(), 16);
        DUE.same("run once", x.total(), 5);
        x.lose(0);
        DUE.same("again", Wire.handCall(x, 9, 1, 8, 5), OnceWire.AGAIN);
        DUE.replyRecord("sent", x, 15, 9, 0, 5);
    }
}
