import java.util.ArrayList;
import java.util.List;
import java.util.function.Consumer;

/** Terms: the line of sixteen messages, and all that sends one. */
public final class NetworkTest {
    private static final Due DUE = new Due();

    public static void main(String[] args) {
        DUE.of("THE NETWORK holds at most 16 messages, in a line; a message that is sent comes to the end"
                + " of the line; when 16 are there, it is lost at once.");
        int[] call = Wire.message(Wire.record(2, 0, 8, 8, 6));
        int[] tick = Wire.message(Wire.record(1, 0, 7));
        int[] again = Wire.message(Wire.record(900, 1, 1));
        sent("call", x -> x.call(8), call);
        sent("tick", OnceWire::tick, tick);
        sent("again", x -> Wire.handCall(x, 900, 3), again);
        sent("run", x -> Wire.handCall(x, 901, 1, 8, 5), Wire.message(Wire.record(901, 1, 0, 0, 0, 0, 5)));
        sent("no procedure", x -> Wire.handCall(x, 902, 4), Wire.message(Wire.record(902, 1, 1)));
        sent("garbage", x -> Wire.handCall(x, 903, 3, 8), Wire.message(Wire.record(903, 1, 2)));
        sent("copy of the first", x -> x.copy(0), again);
        sent("copy of the second", x -> x.copy(1), Wire.message(Wire.record(0, 0, 9)));
        eightByOneTick();
        room();
        DUE.end();
    }

    /** A reply remembered, one call answered, one pending with age 2, and that many messages. */
    private static OnceWire line(int count) {
        OnceWire x = new OnceWire(0);
        Wire.handCall(x, 900, 4);
        x.call(9);
        x.call(7);
        x.tick();
        x.tick();
        Wire.handReply(x, 0, 1);
        x.field(1, 0, false);
        x.put(0, 6);
        while (x.flight() > count) {
            x.lose(x.flight() - 1);
        }
        while (x.flight() < count) {
            x.copy(x.flight() % 3);
        }
        return x;
    }

    private static List<Integer> bytes(OnceWire x, int k) {
        List<Integer> all = new ArrayList<>();
        int size = x.size(k);
        for (int i = 0; i < size; i++) {
            all.add(x.byteAt(k, i));
        }
        return all;
    }

    private static void sent(String what, Consumer<OnceWire> sends, int... message) {
        for (int count = 2; count <= 16; count++) {
            OnceWire x = line(count);
            DUE.same("messages before", x.flight(), count);
            sends.accept(x);
            DUE.same(what + " with " + count + " there", x.flight(), Math.min(count + 1, 16));
            if (count < 16) {
                DUE.bytes(what + " at the end of " + count, x, count, message);
            }
            OnceWire before = line(count);
            for (int k = 0; k < count; k++) {
                DUE.yes(what + ": message " + k + " of " + count + " stays", bytes(x, k).equals(bytes(before, k)));
            }
            DUE.same(what + ": no message 16", x.size(16), OnceWire.NONE);
        }
    }

    /** Of eight messages that are sent at once, as many as there is room for come to the line. */
    private static void eightByOneTick() {
        for (int room = 0; room <= 8; room++) {
            OnceWire x = new OnceWire(0);
            for (int i = 0; i < 8; i++) {
                x.call(i);
            }
            for (int i = 8; i < 16 - room; i++) {
                x.copy(0);
            }
            x.tick();
            x.tick();
            DUE.same("sent", x.tick(), 8);
            DUE.same("messages", x.flight(), 16);
            for (int k = 16 - room; k < 16; k++) {
                int xid = k - 16 + room;
                DUE.callRecord("room for " + room, x, k, xid, xid);
            }
        }
    }

    /** A message that was lost at once does not come when there is room later. */
    private static void room() {
        OnceWire x = line(16);
        DUE.same("call that is lost", x.call(1), 2);
        x.lose(15);
        DUE.same("it stays lost", x.flight(), 15);
        DUE.same("the next one", x.call(5), 3);
        DUE.callRecord("it comes to the end", x, 15, 3, 5, 8, 6);
    }
}
