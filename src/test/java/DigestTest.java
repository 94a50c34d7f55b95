/** Terms: the digest of a value, and what the four procedures make of it. */
public final class DigestTest {
    private static final Due DUE = new Due();

    public static void main(String[] args) {
        digests();
        wrapping();
        procedureZero();
        procedureOne();
        procedureTwo();
        procedureThree();
        DUE.end();
    }

    private static void digests() {
        DUE.of("The DIGEST of a value: beginning with 0, for each field in order, d becomes 31 d + the"
                + " number of its ints (only for a repeated field), then 31 d + x for each of its ints x;"
                + " all as ints wrap.");
        OnceWire x = new OnceWire(1);
        DUE.same("no field", Wire.digest(x, 0), 0);
        x.field(1, 0, true);
        DUE.same("an empty list", Wire.digest(x, 1, Wire.words(0)), 0);
        DUE.same("a list of 0", Wire.digest(x, 2, Wire.words(1, 0)), 31);
        DUE.same("a list of three", Wire.digest(x, 3, Wire.words(3, 5, 6, 7)),
                ((3 * 31 + 5) * 31 + 6) * 31 + 7);
        DUE.same("a list of four", Wire.digest(x, 4, Wire.words(4, 5, 6, 7, 8)),
                (((4 * 31 + 5) * 31 + 6) * 31 + 7) * 31 + 8);
        x.field(2, 2, false);
        DUE.same("a single one behind an empty list", Wire.digest(x, 5, Wire.words(0, 9)), 9);
        DUE.same("a single one behind a list", Wire.digest(x, 6, Wire.words(1, -2, 9)), (31 - 2) * 31 + 9);
        OnceWire y = new OnceWire(1);
        y.field(9, 1, false);
        DUE.same("a single one", Wire.digest(y, 0, Wire.words(-5)), -5);
        y.field(3, 0, true);
        DUE.same("an empty list behind it", Wire.digest(y, 1, Wire.words(-5, 0)), -5 * 31);
        y.field(1, 3, false);
        y.field(4, 3, true);
        DUE.same("four fields", Wire.digest(y, 2, Wire.words(-5, 1, 6, 1, 2, 0, 1)),
                (((((-5 * 31 + 1) * 31 + 6) * 31 + 1) * 31 + 2) * 31) * 31 + 1);
    }

    private static void wrapping() {
        int[] ints = {Integer.MAX_VALUE, Integer.MIN_VALUE, 1 << 30, -1, 69273666, 69273667, -69273666,
            -69273667};
        for (int v : ints) {
            OnceWire x = new OnceWire(1);
            x.field(1, 0, false);
            x.field(2, 0, false);
            long exact = 31L * v + Integer.MAX_VALUE;
            DUE.same("as ints wrap, " + v, Wire.digest(x, 0, Wire.words(v, Integer.MAX_VALUE)), (int) exact);
            DUE.same("as ints wrap, " + v, Wire.digest(x, 1, Wire.words(v, 0)), (int) (31L * v));
            DUE.same("as ints wrap, " + v, Wire.digest(x, 2, Wire.words(v, Integer.MIN_VALUE)),
                    (int) (31L * v + Integer.MIN_VALUE));
        }
    }

    private static OnceWire one() {
        OnceWire x = new OnceWire(1);
        x.field(1, 1, false);
        return x;
    }

    /** The procedure is run with that digest; total and result are then as told. */
    private static void step(OnceWire x, int procedure, int digest, int total, int result) {
        x.put(0, digest);
        int xid = x.call(procedure);
        DUE.same("deliver", x.deliver(0), OnceWire.RAN);
        DUE.same("total", x.total(), total);
        DUE.same("deliver", x.deliver(0), OnceWire.ACCEPTED);
        DUE.same("result", x.result(xid), result);
        DUE.same("total", x.total(), total);
    }

    private static void procedureZero() {
        DUE.of("PROCEDURE 0: result 0.");
        OnceWire x = one();
        step(x, 0, 9, 0, 0);
        step(x, 2, 6, 6, 0);
        step(x, 0, 9, 6, 0);
        step(x, 0, -9, 6, 0);
    }

    private static void procedureOne() {
        DUE.of("1: the total grows by the digest, as ints wrap; result: the new total.");
        OnceWire x = one();
        step(x, 1, 50, 50, 50);
        step(x, 1, -80, -30, -30);
        step(x, 1, 0, -30, -30);
        step(x, 2, Integer.MAX_VALUE - 1, Integer.MAX_VALUE - 1, -30);
        step(x, 1, 1, Integer.MAX_VALUE, Integer.MAX_VALUE);
        step(x, 1, 1, Integer.MIN_VALUE, Integer.MIN_VALUE);
        step(x, 1, 1, Integer.MIN_VALUE + 1, Integer.MIN_VALUE + 1);
        step(x, 1, -1, Integer.MIN_VALUE, Integer.MIN_VALUE);
        step(x, 1, -1, Integer.MAX_VALUE, Integer.MAX_VALUE);
        step(x, 1, Integer.MAX_VALUE, -2, -2);
    }

    private static void procedureTwo() {
        DUE.of("2: the total becomes the digest; result: the old total.");
        OnceWire x = one();
        step(x, 2, Integer.MIN_VALUE, Integer.MIN_VALUE, 0);
        step(x, 2, Integer.MAX_VALUE, Integer.MAX_VALUE, Integer.MIN_VALUE);
        step(x, 2, 0, 0, Integer.MAX_VALUE);
        step(x, 2, 0, 0, 0);
    }

    private static void procedureThree() {
        DUE.of("3: result: the total.");
        OnceWire x = one();
        step(x, 3, 9, 0, 0);
        step(x, 1, -4, -4, -4);
        step(x, 3, 9, -4, -4);
        step(x, 3, -4, -4, -4);
    }
}
