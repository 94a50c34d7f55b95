import java.util.Random;

/** Long runs of drawn calls, the same ones each time, answered as the model answers them. */
public final class ModelTest {
    private static final int RUNS = 3000;
    private static final int CALLS = 512;
    private static final Due DUE = new Due();
    // How often each answer of deliver and hand was seen, BROKEN's and its like counted too.
    private static final int[] SEEN = new int[12];

    private final Random drawn;
    private final OnceWire x;
    private final Model model;
    private final int run;
    private int left = CALLS;

    private ModelTest(int run) {
        this.run = run;
        drawn = new Random(run);
        int format = drawn.nextInt();
        x = new OnceWire(format);
        model = new Model(format);
    }

    public static void main(String[] args) {
        for (int run = 0; run < RUNS; run++) {
            new ModelTest(run).steps();
        }
        int[] all = {OnceWire.RAN, OnceWire.AGAIN, OnceWire.NOPROCEDURE, OnceWire.GARBAGE,
            OnceWire.ACCEPTED, OnceWire.STALE, OnceWire.NONE, OnceWire.BROKEN, OnceWire.WRONG};
        for (int said : all) {
            DUE.yes("answer " + said + " is seen often enough", SEEN[said + 5] > 1000);
        }
        DUE.end();
    }

    private void steps() {
        int declared = drawn.nextInt(5);
        for (int f = 0; f < declared; f++) {
            field();
        }
        while (left > 40) {
            step();
        }
        look();
    }

    private void same(String what, int got, int want) {
        left--;
        DUE.same("run " + run + ", " + left + " calls before its end: " + what, got, want);
    }

    private void same(String what, boolean got, boolean want) {
        same(what, got ? 1 : 0, want ? 1 : 0);
    }

    private void said(String what, int got, int want) {
        SEEN[want + 5]++;
        same(what, got, want);
    }

    private void step() {
        int kind = drawn.nextInt(100);
        if (kind < 2) {
            field();
        } else if (kind < 20) {
            put();
        } else if (kind < 22) {
            x.reset();
            model.reset();
            left--;
        } else if (kind < 36) {
            int procedure = drawn.nextInt(10) == 0 ? anyInt() : drawn.nextInt(5);
            same("call(" + procedure + ")", x.call(procedure), model.call(procedure));
        } else if (kind < 44) {
            same("tick()", x.tick(), model.tick());
        } else if (kind < 68) {
            int k = place();
            said("deliver(" + k + ")", x.deliver(k), model.deliver(k));
        } else if (kind < 72) {
            int k = place();
            same("lose(" + k + ")", x.lose(k), model.lose(k));
        } else if (kind < 78) {
            int k = place();
            same("copy(" + k + ")", x.copy(k), model.copy(k));
        } else if (kind < 82) {
            handBytes();
        } else {
            look();
        }
    }

    private void field() {
        int number = drawn.nextInt(8) == 0 ? anyInt() : drawn.nextInt(30) + 1;
        int kind = drawn.nextInt(8) == 0 ? anyInt() : drawn.nextInt(4);
        boolean repeated = drawn.nextBoolean();
        same("field(" + number + ", " + kind + ", " + repeated + ")",
                x.field(number, kind, repeated), model.field(number, kind, repeated));
    }

    private void put() {
        int f = drawn.nextInt(6) - 1;
        int v = drawn.nextBoolean() ? drawn.nextInt(2) : anyInt();
        same("put(" + f + ", " + v + ")", x.put(f, v), model.put(f, v));
    }

    private int place() {
        int count = model.flight();
        return drawn.nextInt(10) == 0 || count == 0 ? anyInt() : drawn.nextInt(count);
    }

    /** Ints of all lengths, the edges among them. */
    private int anyInt() {
        int v = drawn.nextInt() >> drawn.nextInt(32);
        return drawn.nextInt(6) == 0 ? Integer.MIN_VALUE + drawn.nextInt(3) - 1 : v;
    }

    private void add(int b) {
        if (left > 12) {
            same("add(" + b + ")", x.add(b), model.add(b));
        }
    }

    private void handBytes() {
        int[] message;
        boolean server = drawn.nextInt(3) != 0;
        int how = drawn.nextInt(4);
        if (how == 0 && model.flight() > 0) {
            message = lineMessage();
        } else {
            int third = server ? drawn.nextInt(5) : drawn.nextInt(4);
            int mark = drawn.nextInt(8) == 0 ? anyInt() : server ? 0 : 1;
            int xid = drawn.nextInt(3) == 0 ? anyInt() : drawn.nextInt(20);
            int[] body = server ? body() : drawn.nextInt(3) == 0 ? new int[0] : Wire.word(anyInt());
            int[] record = Wire.record(xid, mark, third, body);
            message = drawn.nextBoolean() ? Wire.message(record) : Wire.oneFragment(record);
        }
        int spoilt = drawn.nextInt(4) == 0 ? drawn.nextInt(message.length) : -1;
        int length = drawn.nextInt(8) == 0 ? drawn.nextInt(message.length) : message.length;
        for (int i = 0; i < length; i++) {
            add(i == spoilt ? drawn.nextInt(256) : message[i]);
        }
        said("hand(" + server + ")", x.hand(server), model.hand(server));
    }

    private int[] lineMessage() {
        int k = drawn.nextInt(model.flight());
        int[] message = new int[model.size(k)];
        for (int i = 0; i < message.length; i++) {
            message[i] = model.byteAt(k, i);
        }
        return message;
    }

    private int[] body() {
        int[] body = {};
        int entries = drawn.nextInt(6);
        boolean tagged = drawn.nextBoolean();
        for (int i = 0; i < entries; i++) {
            if (tagged) {
                int[] key = {drawn.nextInt(4) == 0 ? drawn.nextInt(128) : 8 * drawn.nextInt(16) + 8 & 127};
                body = Wire.join(body, key, payload(key[0] & 7));
            } else {
                body = Wire.join(body, Wire.word(drawn.nextInt(4) == 0 ? anyInt() : drawn.nextInt(3)));
            }
        }
        return body;
    }

    private int[] payload(int wire) {
        int length = wire == 5 ? 4 : wire == 1 ? 8 : drawn.nextInt(drawn.nextInt(11) + 1) + 1;
        int[] bytes = new int[length];
        for (int i = 0; i < length; i++) {
            bytes[i] = wire != 0 ? drawn.nextInt(256) : 128 + drawn.nextInt(128);
        }
        if (wire == 0) {
            bytes[length - 1] = drawn.nextInt(128);
        }
        if (wire == 2) {
            bytes[0] = length - 1;
        }
        return bytes;
    }

    private void look() {
        same("total()", x.total(), model.total());
        same("runs()", x.runs(), model.runs());
        same("flight()", x.flight(), model.flight());
        int k = place();
        same("size(" + k + ")", x.size(k), model.size(k));
        int i = drawn.nextInt(4) == 0 ? anyInt() : drawn.nextInt(160);
        same("byteAt(" + k + ", " + i + ")", x.byteAt(k, i), model.byteAt(k, i));
        int xid = drawn.nextInt(4) == 0 ? anyInt() : drawn.nextInt(60);
        same("status(" + xid + ")", x.status(xid), model.status(xid));
        same("result(" + xid + ")", x.result(xid), model.result(xid));
        for (int m = 0; m < model.flight(); m++) {
            wholeMessage(m);
        }
    }

    /** Looks that change nothing are not counted: the calls of a run bound what it may change. */
    private void wholeMessage(int k) {
        int size = model.size(k);
        DUE.same("run " + run + ": size(" + k + ")", x.size(k), size);
        for (int i = 0; i < size; i++) {
            DUE.same("run " + run + ": byteAt(" + k + ", " + i + ")", x.byteAt(k, i), model.byteAt(k, i));
        }
    }
}
