/** Promise 10: add takes bytes 0 .. 255, and two hundred of them. */
public final class Promise10AddTest {
    private static final Due DUE = new Due();
    private static final int[] BAD = {-1, 256, 257, -128, -255, Integer.MIN_VALUE, Integer.MAX_VALUE};

    public static void main(String[] args) {
        added();
        badBytes();
        twoHundred();
        DUE.end();
    }

    private static void added() {
        DUE.of("Adds a byte to the DRAFT BYTES.");
        OnceWire x = new OnceWire(1);
        x.field(1, 0, false);
        int[] message = Wire.message(Wire.record(0x01FF7F80, 0, 2, 0xFF, 0x00, 0x80, 0x7F));
        for (int b : message) {
            DUE.yes("add", x.add(b));
        }
        DUE.same("nothing is sent by that", x.flight(), 0);
        DUE.same("handed", x.hand(true), OnceWire.RAN);
        DUE.same("in the order in which they came", x.total(), 0xFF00807F);
        DUE.replyRecord("in the order in which they came", x, 0, 0x01FF7F80, 0, 0);
        for (int b = 0; b < 256; b++) {
            OnceWire y = new OnceWire(1);
            y.field(1, 0, false);
            DUE.same("byte " + b, Wire.digest(y, 0, 0, 0, 0, b), b);
        }
    }

    private static void badBytes() {
        DUE.of("False, changing nothing, when b is not 0 .. 255");
        for (int b : BAD) {
            DUE.no("byte " + b, new OnceWire(0).add(b));
            DUE.no("byte " + b, Pasts.busy(0).add(b));
            new Trace(() -> new OnceWire(0)).none(DUE, "byte " + b, x -> x.add(b));
            new Trace(() -> Pasts.busy(0)).none(DUE, "byte " + b, x -> x.add(b));
            new Trace(() -> Pasts.busy(1)).none(DUE, "byte " + b, x -> x.add(b));
        }
        int[] good = {0, 1, 127, 128, 254, 255};
        for (int b : good) {
            DUE.yes("byte " + b, Pasts.busy(0).add(b));
        }
    }

    private static void twoHundred() {
        DUE.of("or they have 200.");
        for (int length = 198; length <= 200; length++) {
            OnceWire x = new OnceWire(0);
            int[] message = Wire.oneFragment(Wire.record(6, 0, 3, filler(length - 16)));
            DUE.same("bytes", message.length, length);
            for (int b : message) {
                DUE.yes("add", x.add(b));
            }
            if (length == 200) {
                DUE.no("201", x.add(0));
                DUE.no("201", x.add(255));
                DUE.no("201, bad", x.add(-1));
            }
            DUE.same(length + " are whole", x.hand(true), OnceWire.RAN);
            DUE.yes("room again", x.add(0));
        }
        OnceWire y = new OnceWire(0);
        for (int i = 0; i < 200; i++) {
            DUE.yes("with " + i, y.add(i));
        }
        DUE.no("with 200", y.add(0));
        int[] bytes = {0, 1, 255, -1, 256};
        for (int b : bytes) {
            DUE.no("byte " + b, Pasts.crammed(0).add(b));
            new Trace(() -> Pasts.crammed(0)).none(DUE, "byte " + b, x -> x.add(b));
        }
    }

    /** A body of that many bytes whose one field is passed over. */
    private static int[] filler(int length) {
        int[] body = new int[length];
        body[0] = 10;
        body[1] = (length - 3) % 128 + 128;
        body[2] = (length - 3) / 128;
        return body;
    }
}
