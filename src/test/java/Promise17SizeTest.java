/** Promise 17: the bytes of a message, the words before its fragments counted. */
public final class Promise17SizeTest {
    private static final Due DUE = new Due();

    public static void main(String[] args) {
        sizes();
        moving();
        none();
        DUE.end();
    }

    private static void sizes() {
        DUE.of("The number of bytes of message k of the line;");
        OnceWire x = new OnceWire(1);
        // Bodies of 0 to 5 words: a record of exactly sixteen bytes is one fragment.
        int[] sizes = {16, 20, 28, 32, 36, 40};
        for (int n = 0; n < 4; n++) {
            x.call(0);
            DUE.same("words " + n, x.size(n), sizes[n]);
            x.field(n + 1, 0, n == 3);
        }
        x.call(0);
        DUE.same("three single ones and a list", x.size(4), sizes[4]);
        x.put(3, 1);
        x.call(0);
        DUE.same("with an int", x.size(5), sizes[5]);
        x.deliver(5);
        DUE.same("reply with a result", x.size(5), 20);
        x.deliver(0);
        DUE.same("reply without one", x.size(5), 16);
        DUE.same("the others moved up", x.size(0), sizes[1]);
    }

    private static void moving() {
        OnceWire x = new OnceWire(0);
        x.field(1, 0, true);
        int[] sizes = {16, 18, 20, 26, 28};
        for (int k = 0; k < 5; k++) {
            x.call(0);
            x.put(0, 1);
            DUE.same("message " + k, x.size(k), sizes[k]);
        }
        x.lose(1);
        x.copy(0);
        int[] later = {16, 20, 26, 28, 16};
        for (int k = 0; k < 5; k++) {
            DUE.same("later", x.size(k), later[k]);
        }
    }

    private static void none() {
        DUE.of("NONE when there is none.");
        int[] nowhere = {-1, 5, 6, 15, 16, 17, Integer.MIN_VALUE, Integer.MAX_VALUE};
        for (int k : nowhere) {
            DUE.same("message " + k + " of none", new OnceWire(0).size(k), OnceWire.NONE);
            DUE.same("message " + k + " of five", Pasts.busy(0).size(k), OnceWire.NONE);
            new Trace(() -> Pasts.busy(0)).none(DUE, "size of " + k, x -> x.size(k));
        }
        DUE.same("message 0 of none", new OnceWire(0).size(0), OnceWire.NONE);
        DUE.same("message 4 of five", Pasts.busy(0).size(4), 16);
        new Trace(() -> Pasts.busy(0)).none(DUE, "size of 4", x -> x.size(4));
        DUE.same("message 16 of sixteen", Pasts.crammed(0).size(16), OnceWire.NONE);
        DUE.same("message -1 of sixteen", Pasts.crammed(0).size(-1), OnceWire.NONE);
        DUE.no("message 15 of sixteen", Pasts.crammed(0).size(15) == OnceWire.NONE);
        OnceWire x = new OnceWire(0);
        x.call(0);
        DUE.same("message 0 of one", x.size(0), 16);
        DUE.same("message 1 of one", x.size(1), OnceWire.NONE);
        x.lose(0);
        DUE.same("a message that was there", x.size(0), OnceWire.NONE);
    }
}
