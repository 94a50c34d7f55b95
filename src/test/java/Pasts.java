/** Objects with a past, for the tests of what a call leaves as it was. */
final class Pasts {
    /** A call of its own kind of which a busy object's draft bytes are the beginning. */
    static final int[] DRAFT = Wire.oneFragment(Wire.record(700, 0, 1));
    static final int DRAFT_ADDED = 10;

    private Pasts() {
    }

    /** Three fields, calls of several ages and statuses, both sides' messages, three replies remembered. */
    static OnceWire running(int format) {
        OnceWire x = new OnceWire(format);
        x.field(16, 1, false);
        x.field(2, 0, true);
        x.field(30, 3, true);
        x.put(0, -7);
        x.put(1, 300);
        x.put(1, 0);
        x.put(2, 1);
        x.call(1);
        x.call(2);
        x.tick();
        x.call(9);
        x.tick();
        x.call(3);
        x.put(1, 5);
        x.deliver(0);
        x.deliver(1);
        x.copy(3);
        x.deliver(3);
        Wire.handCall(x, 500, 1, 0);
        return x;
    }

    /** A running one that has draft bytes too. */
    static OnceWire busy(int format) {
        OnceWire x = running(format);
        Wire.add(x, Wire.first(DRAFT_ADDED, DRAFT));
        return x;
    }

    /** Four fields, full lists, eight pending calls, sixteen messages, four replies, 200 bytes. */
    static OnceWire crammed(int format) {
        OnceWire x = new OnceWire(format);
        x.field(30, 2, false);
        x.field(16, 0, true);
        x.field(7, 3, false);
        x.field(1, 3, true);
        x.put(0, 77);
        x.put(2, 1);
        for (int i = 0; i < 4; i++) {
            x.put(1, -i);
            x.put(3, i % 2);
        }
        for (int i = 0; i < 8; i++) {
            x.call(i);
        }
        x.tick();
        for (int i = 0; i < 4; i++) {
            x.deliver(0);
        }
        for (int i = 0; i < 8; i++) {
            x.copy(i);
        }
        Wire.add(x, Wire.first(200, Wire.oneFragment(Wire.record(600, 0, 3))));
        return x;
    }

    /** A hundred calls were made and answered. */
    static OnceWire hundred(int format) {
        OnceWire x = new OnceWire(format);
        for (int i = 0; i < 100; i++) {
            x.call(i % 5);
            x.deliver(0);
            x.deliver(0);
        }
        return x;
    }
}
