import java.util.Random;

/** The document's first words: what the class is for, as a whole. */
public final class WhatItIsTest {
    private static final Due DUE = new Due();
    private static final int CALLS = 512;

    public static void main(String[] args) {
        DUE.of("A client that calls procedures of a server with values described by a schema, written as"
                + " bytes in one of two formats, over a network that may lose, double and reorder messages;"
                + " calls are sent again until they are answered, and run once as long as the server"
                + " remembers them.");
        for (int seed = 0; seed < 500; seed++) {
            onceEach(seed);
        }
        sentAgainUntilAnswered();
        asLongAsRemembered();
        DUE.of("An object is used for at most 512 calls after it has been made; what later calls answer is"
                + " free.");
        for (int format = 0; format < 2; format++) {
            toThe512th(format);
            beyond(format);
        }
        DUE.end();
    }

    /** Four calls, which the server remembers all, on a network that does as it likes. */
    private static void onceEach(int seed) {
        Random drawn = new Random(seed);
        OnceWire x = new OnceWire(seed);
        x.field(3, 0, false);
        x.field(29, 1, true);
        x.put(1, -seed);
        int[] amounts = new int[4];
        for (int i = 0; i < 4; i++) {
            amounts[i] = drawn.nextInt();
            x.put(0, amounts[i]);
            DUE.same("xid", x.call(1), i);
        }
        int accepted = 0;
        // A step makes two calls, and some twenty are made before and after all steps.
        for (int steps = CALLS / 2 - 10; steps > 0 && accepted < 4; steps--) {
            accepted += unrulyStep(x, drawn) ? 1 : 0;
        }
        String what = "seed " + seed;
        DUE.same(what + ": accepted", accepted, 4);
        DUE.same(what + ": runs", x.runs(), 4);
        int total = 0;
        for (int amount : amounts) {
            total += (amount * 31 + 1) * 31 - seed;
        }
        DUE.same(what + ": total", x.total(), total);
        int last = 0;
        for (int xid = 0; xid < 4; xid++) {
            DUE.same(what + ": status", x.status(xid), 0);
            last += x.result(xid) == total ? 1 : 0;
        }
        DUE.same(what + ": how many have the last total as their result", last, 1);
    }

    /** Loses, doubles or delivers any message of the line, or lets time pass; true for ACCEPTED. */
    private static boolean unrulyStep(OnceWire x, Random drawn) {
        int flight = x.flight();
        int k = flight == 0 ? 0 : drawn.nextInt(flight);
        switch (drawn.nextInt(5)) {
            case 0:
                x.lose(k);
                return false;
            case 1:
                x.copy(k);
                return false;
            case 2:
                x.tick();
                return false;
            default:
                return x.deliver(k) == OnceWire.ACCEPTED;
        }
    }

    private static void sentAgainUntilAnswered() {
        OnceWire x = new OnceWire(0);
        x.call(0);
        for (int round = 0; round < 40; round++) {
            DUE.yes("lost", x.lose(0));
            DUE.same("first tick", x.tick(), 0);
            DUE.same("second tick", x.tick(), 0);
            DUE.same("third tick", x.tick(), 1);
            DUE.same("sent again", x.flight(), 1);
        }
        DUE.same("ran", x.deliver(0), OnceWire.RAN);
        DUE.same("answered", x.deliver(0), OnceWire.ACCEPTED);
        for (int n = 0; n < 6; n++) {
            DUE.same("no more", x.tick(), 0);
        }
        DUE.same("once", x.runs(), 1);
    }

    private static void asLongAsRemembered() {
        for (int newer = 0; newer < 7; newer++) {
            OnceWire x = new OnceWire(1);
            x.call(0);
            x.copy(0);
            DUE.same("ran", x.deliver(0), OnceWire.RAN);
            for (int n = 1; n <= newer; n++) {
                x.call(0);
                DUE.same("a newer one", x.deliver(x.flight() - 1), OnceWire.RAN);
            }
            boolean remembers = newer < 4;
            DUE.same("after " + newer, x.deliver(0), remembers ? OnceWire.AGAIN : OnceWire.RAN);
            DUE.same("runs after " + newer, x.runs(), newer + (remembers ? 1 : 2));
        }
    }

    /** The last call that an object must answer well is answered well. */
    private static void toThe512th(int format) {
        OnceWire x = new OnceWire(format);
        int left = CALLS;
        DUE.same("field", x.field(30, 0, false), 0);
        DUE.yes("put", x.put(0, 1));
        left -= 2;
        for (int i = 0; i < 100; i++) {
            DUE.same("call", x.call(1), i);
            DUE.same("tick", x.tick(), 0);
            DUE.same("deliver to the server", x.deliver(0), OnceWire.RAN);
            DUE.same("deliver to the client", x.deliver(0), OnceWire.ACCEPTED);
            DUE.same("result", x.result(i), i + 1);
            left -= 5;
        }
        for (; left > 1; left--) {
            DUE.same("one call too many", x.call(1), OnceWire.FULL);
        }
        DUE.same("the 512th", x.total(), 100);
    }

    /** Answers are free then, but a call still has to end without throwing. */
    private static void beyond(int format) {
        Random drawn = new Random(format);
        OnceWire x = new OnceWire(format);
        for (int n = 0; n < 100 * CALLS; n++) {
            anyStep(x, drawn);
        }
        DUE.yes("still a line of at most 16", x.flight() <= 16);
    }

    private static void anyStep(OnceWire x, Random drawn) {
        int a = drawn.nextInt() >> drawn.nextInt(32);
        int b = drawn.nextInt() >> drawn.nextInt(32);
        switch (drawn.nextInt(12)) {
            case 0 -> x.field(a, b & 7, a < b);
            case 1 -> x.put(a & 7, b);
            case 2 -> x.reset();
            case 3 -> x.call(a & 511);
            case 4 -> x.tick();
            case 5 -> x.deliver(a & 15);
            case 6 -> x.lose(a);
            case 7 -> x.copy(a & 15);
            case 8 -> x.add(a & 511);
            case 9 -> x.hand(a < b);
            case 10 -> x.byteAt(a & 15, b);
            default -> x.result(x.status(a) + x.size(b) + x.total() + x.runs());
        }
    }
}
