/** Promise 3: put replaces single ints, lengthens lists up to four, and keeps FLAGs to 0 and 1. */
public final class Promise03PutTest {
    public static void main(String[] args) {
        Due due = new Due();
        OnceWire x = new OnceWire(1);
        x.field(1, 0, false);
        x.field(2, 1, true);
        x.field(3, 3, false);
        x.field(4, 3, true);
        int[] noFields = {-1, 4, Integer.MIN_VALUE, Integer.MAX_VALUE};
        for (int f : noFields) {
            due.no("put to " + f, x.put(f, 0));
        }
        due.yes("single", x.put(0, 5));
        due.yes("single again", x.put(0, Integer.MIN_VALUE));
        due.yes("list 1", x.put(1, 1));
        due.yes("list 2", x.put(1, 0));
        due.yes("list 3", x.put(1, -3));
        due.yes("list 4", x.put(1, Integer.MAX_VALUE));
        due.no("list 5", x.put(1, 5));
        due.yes("flag 1", x.put(2, 1));
        due.no("flag 2", x.put(2, 2));
        due.no("flag -1", x.put(2, -1));
        due.no("flags 2", x.put(3, 2));
        due.yes("flags 1", x.put(3, 1));
        due.yes("flags 0", x.put(3, 0));
        x.call(0);
        due.callRecord("all that was put", x, 0, 0, 0, Wire.words(Integer.MIN_VALUE,
                4, 1, 0, -3, Integer.MAX_VALUE, 1, 2, 1, 0));
        due.yes("flag 0", x.put(2, 0));
        x.call(0);
        due.callRecord("flag back to 0", x, 1, 1, 0, Wire.words(Integer.MIN_VALUE,
                4, 1, 0, -3, Integer.MAX_VALUE, 0, 2, 1, 0));
        OnceWire y = new OnceWire(0);
        due.no("before the field", y.put(0, 1));
        y.field(1, 0, false);
        due.no("the field after it", y.put(1, 1));
        due.yes("the field", y.put(0, 1));
        due.end();
    }
}
