/** Promise 5: call sends the call record and answers xids; BAD before FULL, changing nothing. */
public final class Promise05CallTest {
    private static final Due DUE = new Due();
    private static final int[] BAD = {-1, 256, 257, -256, Integer.MIN_VALUE, Integer.MAX_VALUE};

    public static void main(String[] args) {
        sends();
        longest();
        networkFull();
        badProcedures();
        eightPending();
        hundredMade();
        badBeforeFull();
        DUE.end();
    }

    private static void refused(String what, java.util.function.Supplier<OnceWire> past, int want, int procedure) {
        DUE.same(what, past.get().call(procedure), want);
        new Trace(past).none(DUE, what, x -> x.call(procedure));
    }

    private static void sends() {
        DUE.of("The client calls a procedure with the draft value (which stays): sends the message of the"
                + " call record and answers the call's xid.");
        OnceWire x = new OnceWire(0);
        x.field(1, 0, false);
        x.field(2, 0, true);
        x.put(0, 300);
        x.put(1, 7);
        int[] procedures = {0, 1, 2, 3, 4, 254, 255};
        for (int xid = 0; xid < procedures.length; xid++) {
            DUE.same("xid", x.call(procedures[xid]), xid);
            DUE.callRecord("with the draft value that stays", x, xid, xid, procedures[xid], 8, 172, 2, 16, 7);
            DUE.same("pending", x.status(xid), OnceWire.PENDING);
            DUE.same("sent", x.flight(), xid + 1);
        }
        x.put(0, 0);
        x.put(1, 8);
        DUE.same("xid", x.call(9), 7);
        DUE.callRecord("the draft value by now", x, 7, 7, 9, 16, 7, 16, 8);
        DUE.callRecord("not that of before", x, 6, 6, 255, 8, 172, 2, 16, 7);
        DUE.same("nothing is run by that", x.runs(), 0);
        DUE.same("it goes to the server", x.deliver(1), OnceWire.RAN);
    }

    /** The longest record that there is: 124 bytes in eight fragments. */
    private static void longest() {
        OnceWire x = new OnceWire(0);
        for (int f = 0; f < 4; f++) {
            x.field(16 + f, 0, true);
            for (int i = 0; i < 4; i++) {
                x.put(f, -1);
            }
        }
        x.call(1);
        int[] body = {};
        for (int i = 0; i < 16; i++) {
            body = Wire.join(body, Wire.bytes(128 + 8 * (i / 4), 1, 255, 255, 255, 255, 15));
        }
        DUE.same("longest message", x.size(0), 156);
        DUE.callRecord("longest call", x, 0, 0, 1, body);
        DUE.same("behind its end", x.byteAt(0, 156), OnceWire.NONE);
        OnceWire y = new OnceWire(1);
        for (int f = 0; f < 4; f++) {
            y.field(16 + f, 0, true);
            for (int i = 0; i < 4; i++) {
                y.put(f, -1);
            }
        }
        y.call(1);
        DUE.same("longest message of words", y.size(0), 92 + 6 * 4);
        DUE.same("it is whole", y.deliver(0), OnceWire.RAN);
        DUE.yes("copy", x.copy(0));
        DUE.same("it is whole", x.deliver(1), OnceWire.RAN);
        x.tick();
        x.tick();
        DUE.same("sent again", x.tick(), 1);
        DUE.callRecord("longest call again", x, 2, 0, 1, body);
    }

    private static void networkFull() {
        for (int count = 14; count <= 16; count++) {
            OnceWire x = new OnceWire(0);
            x.call(0);
            while (x.flight() < count) {
                x.copy(0);
            }
            DUE.same("with " + count + " there", x.call(0), 1);
            DUE.same("with " + count + " there", x.flight(), Math.min(count + 1, 16));
            DUE.same("it is pending, lost or not", x.status(1), OnceWire.PENDING);
            x.lose(0);
            x.lose(0);
            x.tick();
            x.tick();
            DUE.same("sent again, lost or not", x.tick(), 2);
        }
    }

    private static void badProcedures() {
        DUE.of("BAD, changing nothing, when procedure is not 0 .. 255;");
        for (int procedure : BAD) {
            refused("procedure " + procedure, () -> new OnceWire(0), OnceWire.BAD, procedure);
            refused("procedure " + procedure, () -> Pasts.busy(0), OnceWire.BAD, procedure);
            refused("procedure " + procedure, () -> Pasts.busy(1), OnceWire.BAD, procedure);
        }
        DUE.same("procedure 0", Pasts.busy(0).call(0), 4);
        DUE.same("procedure 1", Pasts.busy(0).call(1), 4);
        DUE.same("procedure 254", Pasts.busy(0).call(254), 4);
        DUE.same("procedure 255", Pasts.busy(0).call(255), 4);
    }

    private static void eightPending() {
        DUE.of("FULL, changing nothing, when eight calls are pending or a hundred were made");
        OnceWire x = new OnceWire(0);
        for (int i = 0; i < 8; i++) {
            DUE.same("with " + i + " pending", x.call(0), i);
        }
        DUE.same("with eight pending", x.call(0), OnceWire.FULL);
        DUE.same("no ninth", x.status(8), OnceWire.NONE);
        DUE.same("stale", Wire.handReply(x, 8, 1), OnceWire.STALE);
        DUE.same("still eight", x.call(0), OnceWire.FULL);
        for (int i = 0; i < 8; i++) {
            DUE.same("an answer", Wire.handReply(x, i, 1), OnceWire.ACCEPTED);
            DUE.same("room for one", x.call(7), 8 + i);
            DUE.same("room no more", x.call(7), OnceWire.FULL);
        }
        DUE.same("an answer", Wire.handReply(x, 9, 1), OnceWire.ACCEPTED);
        DUE.same("an answer", Wire.handReply(x, 11, 1), OnceWire.ACCEPTED);
        DUE.same("room for two", x.call(7), 16);
        DUE.same("room for two", x.call(7), 17);
        DUE.same("room no more", x.call(7), OnceWire.FULL);
        int[] procedures = {0, 3, 255};
        for (int procedure : procedures) {
            refused("a ninth", () -> Pasts.crammed(0), OnceWire.FULL, procedure);
            refused("a ninth", () -> Pasts.crammed(1), OnceWire.FULL, procedure);
        }
    }

    private static void hundredMade() {
        OnceWire x = new OnceWire(1);
        for (int i = 0; i < 100; i++) {
            DUE.same("with " + i + " made", x.call(3), i);
            DUE.same("deliver the call", x.deliver(0), OnceWire.RAN);
            DUE.same("deliver the reply", x.deliver(0), OnceWire.ACCEPTED);
        }
        DUE.same("with a hundred made", x.call(0), OnceWire.FULL);
        DUE.same("the hundredth", x.status(99), 0);
        DUE.same("no other", x.status(100), OnceWire.NONE);
        DUE.same("nothing is sent", x.flight(), 0);
        int[] procedures = {0, 255};
        for (int procedure : procedures) {
            refused("with a hundred made", () -> Pasts.hundred(0), OnceWire.FULL, procedure);
            refused("with a hundred made", () -> Pasts.hundred(1), OnceWire.FULL, procedure);
        }
        lastOnesPending();
    }

    /** The hundredth call may be one that stays pending; refused ones are not among the hundred. */
    private static void lastOnesPending() {
        OnceWire x = new OnceWire(0);
        for (int i = 0; i < 92; i++) {
            x.call(3);
            x.deliver(0);
            x.deliver(0);
            if (i % 10 == 0) {
                DUE.same("refused", x.call(256), OnceWire.BAD);
            }
        }
        for (int i = 92; i < 100; i++) {
            DUE.same("with " + i + " made", x.call(3), i);
        }
        DUE.same("both", x.call(3), OnceWire.FULL);
        DUE.same("accepted", Wire.handReply(x, 99, 1), OnceWire.ACCEPTED);
        DUE.same("seven are pending, a hundred were made", x.call(3), OnceWire.FULL);
    }

    private static void badBeforeFull() {
        DUE.of("(BAD is tested first).");
        for (int procedure : BAD) {
            refused("procedure " + procedure, () -> Pasts.crammed(0), OnceWire.BAD, procedure);
            refused("procedure " + procedure, () -> Pasts.hundred(0), OnceWire.BAD, procedure);
        }
    }
}
