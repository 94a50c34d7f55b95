/** Promise 6: every third tick of a pending call sends the same bytes again, in xid order. */
public final class Promise06TickTest {
    private static final Due DUE = new Due();

    public static void main(String[] args) {
        nonePending();
        inOrder();
        everyThird();
        agesOfTheirOwn();
        sameBytes();
        stopsWhenAnswered();
        howMany();
        lostAtOnce();
        DUE.end();
    }

    private static void loseAll(OnceWire x) {
        for (int k = x.flight(); k > 0; k--) {
            x.lose(0);
        }
    }

    private static void nonePending() {
        DUE.of("The age of each pending call, in the order of their xids, grows by 1;");
        for (int format = 0; format < 2; format++) {
            int f = format;
            new Trace(() -> new OnceWire(f)).none(DUE, "tick without calls", OnceWire::tick);
            new Trace(() -> Pasts.hundred(f)).none(DUE, "tick with all calls answered", x -> {
                for (int i = 0; i < 4; i++) {
                    DUE.same("tick", x.tick(), 0);
                }
            });
        }
    }

    private static void inOrder() {
        OnceWire x = new OnceWire(0);
        for (int i = 0; i < 8; i++) {
            x.call(10 + i);
        }
        Wire.handReply(x, 1, 1);
        Wire.handReply(x, 6, 1);
        x.call(30);
        x.call(31);
        loseAll(x);
        x.tick();
        x.tick();
        DUE.same("all eight", x.tick(), 8);
        int[] xids = {0, 2, 3, 4, 5, 7, 8, 9};
        int[] procedures = {10, 12, 13, 14, 15, 17, 30, 31};
        for (int k = 0; k < 8; k++) {
            DUE.callRecord("in order", x, k, xids[k], procedures[k]);
        }
    }

    private static void everyThird() {
        DUE.of("when it becomes 3, the call's message is sent again, with the same bytes as at first, and"
                + " its age becomes 0.");
        OnceWire x = new OnceWire(0);
        x.call(5);
        for (int round = 1; round <= 4; round++) {
            DUE.same("age 1", x.tick(), 0);
            DUE.same("age 2", x.tick(), 0);
            DUE.same("flight", x.flight(), round);
            DUE.same("age 3", x.tick(), 1);
            DUE.same("flight", x.flight(), round + 1);
            DUE.callRecord("it comes to the end", x, round, 0, 5);
        }
        DUE.same("it goes to the server", x.deliver(4), OnceWire.NOPROCEDURE);
    }

    private static void agesOfTheirOwn() {
        OnceWire x = new OnceWire(0);
        x.call(0);
        DUE.same("tick 1", x.tick(), 0);
        x.call(1);
        DUE.same("tick 2", x.tick(), 0);
        x.call(2);
        x.call(3);
        int[][] due = {{0}, {1}, {2, 3}, {0}, {1}, {2, 3}};
        for (int[] xids : due) {
            loseAll(x);
            DUE.same("sent", x.tick(), xids.length);
            for (int k = 0; k < xids.length; k++) {
                DUE.callRecord("the one whose age was 2", x, k, xids[k], xids[k]);
            }
            DUE.same("no other", x.flight(), xids.length);
        }
        // An answer in the middle leaves the others with their own ages, which are 1, 0, 0 for 0, 2, 3.
        DUE.same("accepted", Wire.handReply(x, 1, 1), OnceWire.ACCEPTED);
        int[][] later = {{0}, {}, {2, 3}, {0}};
        for (int[] xids : later) {
            loseAll(x);
            DUE.same("sent after an answer", x.tick(), xids.length);
            for (int k = 0; k < xids.length; k++) {
                DUE.callRecord("sent after an answer", x, k, xids[k], xids[k]);
            }
        }
    }

    private static void sameBytes() {
        for (int format = 0; format < 2; format++) {
            OnceWire x = new OnceWire(format);
            x.field(1, 0, false);
            x.field(2, 0, true);
            x.put(0, 77);
            x.put(1, 5);
            x.call(4);
            x.put(0, 78);
            x.put(1, 6);
            x.call(5);
            x.reset();
            x.field(3, 1, true);
            x.put(2, 3);
            x.call(6);
            for (int round = 0; round < 2; round++) {
                loseAll(x);
                x.tick();
                x.tick();
                DUE.same("sent", x.tick(), 3);
                int[][] bodies = {{8, 77, 16, 5}, {8, 78, 16, 5, 16, 6}, {24, 6}};
                int[][] words = {Wire.words(77, 1, 5), Wire.words(78, 2, 5, 6), Wire.words(0, 0, 1, 3)};
                for (int xid = 0; xid < 3; xid++) {
                    DUE.callRecord("as at first", x, xid, xid, 4 + xid, format == 0 ? bodies[xid] : words[xid]);
                }
            }
        }
    }

    private static void stopsWhenAnswered() {
        for (int status = 0; status <= 2; status++) {
            OnceWire x = new OnceWire(0);
            x.call(0);
            x.tick();
            x.tick();
            int[] rest = status == 0 ? Wire.word(1) : Wire.bytes();
            DUE.same("accepted", Wire.handReply(x, 0, status, rest), OnceWire.ACCEPTED);
            for (int i = 0; i < 4; i++) {
                DUE.same("not sent again", x.tick(), 0);
            }
            DUE.same("flight", x.flight(), 1);
        }
    }

    private static void howMany() {
        DUE.of("Answers how many were sent (also those that were lost at once).");
        for (int count = 0; count <= 8; count++) {
            OnceWire x = new OnceWire(0);
            for (int i = 0; i < count; i++) {
                x.call(0);
            }
            DUE.same("tick 1", x.tick(), 0);
            DUE.same("tick 2", x.tick(), 0);
            DUE.same("tick 3", x.tick(), count);
            DUE.same("flight", x.flight(), 2 * count);
        }
    }

    private static void lostAtOnce() {
        for (int room = 0; room <= 2; room++) {
            OnceWire x = new OnceWire(0);
            for (int i = 0; i < 8; i++) {
                x.call(i);
            }
            while (x.flight() < 16 - room) {
                x.copy(0);
            }
            for (int round = 0; round < 2; round++) {
                DUE.same("age 1", x.tick(), 0);
                DUE.same("age 2", x.tick(), 0);
                DUE.same("lost ones count", x.tick(), 8);
                DUE.same("sixteen at most", x.flight(), 16);
            }
            for (int i = 0; i < room; i++) {
                DUE.callRecord("the first ones found room", x, 16 - room + i, i, i);
            }
        }
    }
}
