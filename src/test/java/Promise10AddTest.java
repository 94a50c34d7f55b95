/** Promise 10: add takes bytes 0 .. 255, and two hundred of them. */
public final class Promise10AddTest {
    public static void main(String[] args) {
        Due due = new Due();
        OnceWire x = new OnceWire(0);
        int[] bad = {-1, 256, Integer.MIN_VALUE, Integer.MAX_VALUE};
        for (int b : bad) {
            due.no("add " + b, x.add(b));
        }
        // A call whose one unknown field has 255 and 0 in it: wrong bytes left no trace.
        int[] record = Wire.record(5, 0, 3, 10, 2, 255, 0);
        due.same("bytes handed", Wire.hand(x, true, Wire.oneFragment(record)), OnceWire.RAN);
        int[] longest = Wire.oneFragment(Wire.record(6, 0, 3, filler(184)));
        due.same("two hundred", longest.length, 200);
        for (int b : longest) {
            due.yes("add", x.add(b));
        }
        due.no("201", x.add(0));
        due.no("201, bad", x.add(-1));
        due.same("the two hundred are whole", x.hand(true), OnceWire.RAN);
        due.yes("room again", x.add(0));
        due.same("nothing is sent by add", x.flight(), 2);
        due.end();
    }

    /** A body of that many bytes whose one field is passed over. */
    private static int[] filler(int length) {
        int[] body = new int[length];
        body[0] = 10;
        body[1] = (length - 3) % 128 + 128;
        body[2] = (length - 3) / 128;
        return body;
    }
}
