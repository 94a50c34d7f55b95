/** Promise 5: call sends the call record and answers xids; BAD before FULL, changing nothing. */
public final class Promise05CallTest {
    public static void main(String[] args) {
        Due due = new Due();
        procedures(due);
        eightPending(due);
        hundredMade(due);
        networkFull(due);
        longest(due);
        due.end();
    }

    private static void procedures(Due due) {
        OnceWire x = new OnceWire(0);
        x.field(1, 0, false);
        x.put(0, 300);
        int[] bad = {-1, 256, Integer.MIN_VALUE, Integer.MAX_VALUE};
        for (int procedure : bad) {
            due.same("call " + procedure, x.call(procedure), OnceWire.BAD);
        }
        due.same("nothing was sent", x.flight(), 0);
        due.same("no call", x.status(0), OnceWire.NONE);
        due.same("call 0", x.call(0), 0);
        due.same("call 255", x.call(255), 1);
        due.callRecord("call 0", x, 0, 0, 0, 8, 172, 2);
        due.callRecord("call 255, with the draft value that stays", x, 1, 1, 255, 8, 172, 2);
        due.same("pending", x.status(1), OnceWire.PENDING);
    }

    private static void eightPending(Due due) {
        OnceWire x = new OnceWire(0);
        for (int i = 0; i < 8; i++) {
            due.same("call", x.call(0), i);
        }
        due.same("ninth", x.call(0), OnceWire.FULL);
        due.same("ninth, bad", x.call(256), OnceWire.BAD);
        due.same("eight were sent", x.flight(), 8);
        due.same("no ninth call", x.status(8), OnceWire.NONE);
        due.same("an answer", Wire.handReply(x, 3, 1), OnceWire.ACCEPTED);
        due.same("room for one", x.call(7), 8);
        due.callRecord("its message", x, 8, 8, 7);
        due.same("room no more", x.call(7), OnceWire.FULL);
    }

    private static void hundredMade(Due due) {
        OnceWire x = new OnceWire(1);
        for (int i = 0; i < 100; i++) {
            due.same("call", x.call(3), i);
            due.same("deliver the call", x.deliver(0), OnceWire.RAN);
            due.same("deliver the reply", x.deliver(0), OnceWire.ACCEPTED);
        }
        due.same("call 101", x.call(0), OnceWire.FULL);
        due.same("call 101, bad", x.call(-1), OnceWire.BAD);
        due.same("status of the hundredth", x.status(99), 0);
        due.same("no call 101", x.status(100), OnceWire.NONE);
        due.same("nothing sent", x.flight(), 0);
    }

    private static void networkFull(Due due) {
        OnceWire x = new OnceWire(0);
        x.call(0);
        for (int i = 0; i < 15; i++) {
            due.yes("copy", x.copy(0));
        }
        due.same("call that is lost at once", x.call(0), 1);
        due.same("sixteen stay", x.flight(), 16);
        due.same("it is pending", x.status(1), OnceWire.PENDING);
    }

    private static void longest(Due due) {
        OnceWire x = new OnceWire(0);
        for (int f = 0; f < 4; f++) {
            x.field(16 + f, 0, true);
            for (int i = 0; i < 4; i++) {
                x.put(f, -1);
            }
        }
        x.call(1);
        int[] body = {};
        for (int i = 0; i < 16; i++) {
            body = Wire.join(body, new int[] {128 + 8 * (i / 4), 1, 255, 255, 255, 255, 15});
        }
        due.same("longest message", x.size(0), 156);
        due.callRecord("longest call", x, 0, 0, 1, body);
        due.yes("copy", x.copy(0));
        due.same("deliver", x.deliver(1), OnceWire.RAN);
        x.tick();
        x.tick();
        due.same("sent again", x.tick(), 1);
        due.callRecord("longest call again", x, 2, 0, 1, body);
    }
}
