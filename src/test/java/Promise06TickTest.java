/** Promise 6: every third tick of a pending call sends the same bytes again, in xid order. */
public final class Promise06TickTest {
    public static void main(String[] args) {
        Due due = new Due();
        ages(due);
        sameBytes(due);
        order(due);
        lostAtOnce(due);
        due.end();
    }

    private static void ages(Due due) {
        OnceWire x = new OnceWire(0);
        due.same("tick without calls", x.tick(), 0);
        x.call(0);
        due.same("tick 1", x.tick(), 0);
        x.call(1);
        due.same("tick 2", x.tick(), 0);
        due.same("tick 3 sends call 0", x.tick(), 1);
        due.callRecord("call 0", x, 2, 0, 0);
        due.same("tick 4 sends call 1", x.tick(), 1);
        due.callRecord("call 1", x, 3, 1, 1);
        due.same("tick 5", x.tick(), 0);
        due.same("accepted", Wire.handReply(x, 0, 2), OnceWire.ACCEPTED);
        due.same("tick 6", x.tick(), 0);
        due.same("tick 7 sends call 1", x.tick(), 1);
        due.callRecord("call 1 again", x, 4, 1, 1);
        due.same("flight", x.flight(), 5);
        due.same("it goes to the server", x.deliver(4), OnceWire.RAN);
    }

    private static void sameBytes(Due due) {
        OnceWire x = new OnceWire(1);
        x.field(1, 0, false);
        x.put(0, 77);
        x.call(4);
        x.put(0, 78);
        x.field(2, 1, true);
        x.put(1, 3);
        x.tick();
        x.tick();
        x.tick();
        due.callRecord("as at first", x, 1, 0, 4, Wire.words(77));
    }

    private static void order(Due due) {
        OnceWire x = new OnceWire(0);
        for (int i = 0; i < 8; i++) {
            x.call(10 + i);
        }
        Wire.handReply(x, 1, 1);
        Wire.handReply(x, 6, 1);
        x.call(30);
        x.call(31);
        for (int k = x.flight(); k > 0; k--) {
            x.lose(0);
        }
        x.tick();
        x.tick();
        due.same("all eight", x.tick(), 8);
        int[] xids = {0, 2, 3, 4, 5, 7, 8, 9};
        int[] procedures = {10, 12, 13, 14, 15, 17, 30, 31};
        for (int k = 0; k < 8; k++) {
            due.callRecord("in order", x, k, xids[k], procedures[k]);
        }
    }

    private static void lostAtOnce(Due due) {
        OnceWire x = new OnceWire(0);
        for (int i = 0; i < 8; i++) {
            x.call(i);
        }
        for (int i = 0; i < 6; i++) {
            x.copy(0);
        }
        x.tick();
        x.tick();
        due.same("lost ones count", x.tick(), 8);
        due.same("sixteen at most", x.flight(), 16);
        due.callRecord("the first two found room", x, 15, 1, 1);
        x.tick();
        x.tick();
        due.same("lost ones count", x.tick(), 8);
    }
}
