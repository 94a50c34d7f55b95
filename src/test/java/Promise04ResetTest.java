/** Promise 4: reset empties the draft value, and nothing else. */
public final class Promise04ResetTest {
    private static final Due DUE = new Due();

    public static void main(String[] args) {
        DUE.of("The draft value has 0 in all single fields and no int in the repeated ones.");
        allKinds();
        roomAgain();
        nothingElse();
        DUE.end();
    }

    private static void allKinds() {
        for (int format = 0; format < 2; format++) {
            for (int kind = 0; kind < 4; kind++) {
                OnceWire x = new OnceWire(format);
                x.reset();
                x.field(1, kind, false);
                x.field(2, kind, true);
                x.field(3, kind, true);
                x.put(0, 1);
                x.put(1, 1);
                for (int i = 0; i < 4; i++) {
                    x.put(2, 1);
                }
                x.reset();
                x.call(2);
                DUE.callRecord("kind " + kind, x, 0, 0, 2, format == 1 ? Wire.words(0, 0, 0) : Wire.bytes());
                DUE.same("deliver", x.deliver(0), OnceWire.RAN);
                DUE.same("digest", x.total(), 0);
                x.reset();
                x.field(4, kind, true);
                x.call(2);
                DUE.callRecord("a later field", x, 1, 1, 2, format == 1 ? Wire.words(0, 0, 0, 0) : Wire.bytes());
            }
        }
    }

    private static void roomAgain() {
        OnceWire x = new OnceWire(1);
        x.field(1, 0, true);
        for (int round = 0; round < 3; round++) {
            for (int i = 0; i < 4; i++) {
                DUE.yes("room again", x.put(0, round));
            }
            DUE.no("a fifth", x.put(0, round));
            x.call(0);
            DUE.callRecord("four new ones", x, round, round, 0, Wire.words(4, round, round, round, round));
            x.reset();
        }
    }

    /** With a draft value that is empty, reset leaves no trace; with another, it is as if none was put. */
    private static void nothingElse() {
        for (int format = 0; format < 2; format++) {
            int f = format;
            new Trace(() -> new OnceWire(f)).none(DUE, "reset of a new object", OnceWire::reset);
            Trace reset = new Trace(() -> {
                OnceWire x = Pasts.busy(f);
                x.reset();
                return x;
            });
            reset.none(DUE, "a second reset", OnceWire::reset);
            reset.alike(DUE, "reset after puts", x -> {
                x.put(0, 9);
                x.put(1, 9);
                x.put(2, 1);
                x.reset();
            }, x -> { });
            OnceWire y = Pasts.busy(f);
            y.reset();
            DUE.same("messages stay", y.flight(), 5);
            DUE.same("calls stay", y.status(0), OnceWire.PENDING);
            DUE.same("the total stays", y.total(), Pasts.busy(f).total());
            DUE.same("fields stay", y.field(30, 0, false), OnceWire.BAD);
            for (int i = Pasts.DRAFT_ADDED; i < Pasts.DRAFT.length; i++) {
                y.add(Pasts.DRAFT[i]);
            }
            DUE.same("draft bytes stay", y.hand(true), f == 0 ? OnceWire.RAN : OnceWire.GARBAGE);
        }
    }
}
