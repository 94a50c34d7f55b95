/** Terms: format 0, its varints, keys and kinds, written and read. */
public final class TaggedFormatTest {
    private static final Due DUE = new Due();
    private static int xid = 0;

    public static void main(String[] args) {
        writtenInts();
        writtenFields();
        readInts();
        readLists();
        passedOver();
        faultyKeys();
        faultyVarints();
        cutShort();
        DUE.end();
    }

    private static OnceWire one(int number, int kind, boolean repeated) {
        OnceWire x = new OnceWire(0);
        x.field(number, kind, repeated);
        return x;
    }

    private static void written(int kind, int v, int... payload) {
        OnceWire x = one(3, kind, true);
        x.put(0, v);
        x.call(2);
        int key = kind == 2 ? 29 : 24;
        DUE.callRecord("kind " + kind + ", int " + v, x, 0, 0, 2, Wire.join(new int[] {key}, payload));
        DUE.same("read back", x.deliver(0), OnceWire.RAN);
        DUE.same("read back", x.total(), 31 + v);
    }

    private static void writtenInts() {
        int[][] counts = {{0, 0}, {1, 1}, {127, 127}, {128, 128, 1}, {16383, 255, 127},
            {16384, 128, 128, 1}, {Integer.MAX_VALUE, 255, 255, 255, 255, 7},
            {-1, 255, 255, 255, 255, 15}, {Integer.MIN_VALUE, 128, 128, 128, 128, 8}};
        int[][] signed = {{0, 0}, {-1, 1}, {1, 2}, {-2, 3}, {63, 126}, {-64, 127}, {64, 128, 1},
            {Integer.MAX_VALUE, 254, 255, 255, 255, 15}, {Integer.MIN_VALUE, 255, 255, 255, 255, 15}};
        int[][] fixed = {{0, 0, 0, 0, 0}, {0x81020384, 0x84, 3, 2, 0x81}, {-2, 254, 255, 255, 255}};
        int[][] flags = {{0, 0}, {1, 1}};
        int[][][] all = {counts, signed, fixed, flags};
        for (int kind = 0; kind < 4; kind++) {
            for (int[] row : all[kind]) {
                written(kind, row[0], java.util.Arrays.copyOfRange(row, 1, row.length));
            }
        }
    }

    private static void writtenFields() {
        OnceWire x = new OnceWire(0);
        x.field(30, 2, false);
        x.field(1, 1, true);
        x.field(15, 3, false);
        x.field(16, 0, false);
        x.call(0);
        DUE.callRecord("zeros of single fields are not written", x, 0, 0, 0);
        x.put(0, 1);
        x.put(1, 0);
        x.put(1, 2);
        x.put(2, 1);
        x.put(3, 5);
        x.call(0);
        DUE.callRecord("in the order of the indices", x, 1, 1, 0,
                245, 1, 1, 0, 0, 0, 8, 0, 8, 4, 120, 1, 128, 1, 5);
        x.put(0, 0);
        x.put(2, 0);
        x.call(0);
        DUE.callRecord("zeros again", x, 2, 2, 0, 8, 0, 8, 4, 128, 1, 5);
    }

    private static void read(String what, int kind, int want, int... body) {
        DUE.same(what, Wire.digest(one(3, kind, false), xid++, body), want);
    }

    private static void readInts() {
        read("nothing", 0, 0);
        read("count", 0, 300, 24, 172, 2);
        read("the last one counts", 0, 5, 24, 172, 2, 24, 5);
        read("the last one counts, 0 too", 0, 0, 24, 172, 2, 24, 0);
        read("a longer key", 0, 7, 152, 128, 0, 7);
        read("a longer varint", 0, 7, 24, 135, 128, 128, 128, 128, 128, 128, 128, 128, 0);
        read("beyond 32 bits", 0, 1, 24, 129, 128, 128, 128, 240, 127);
        read("ten bytes", 0, -1, 24, 255, 255, 255, 255, 255, 255, 255, 255, 255, 1);
        read("signed, beyond 32 bits", 1, -1, 24, 129, 128, 128, 128, 240, 127);
        read("signed, lowest", 1, Integer.MIN_VALUE, 24, 255, 255, 255, 255, 15);
        read("signed, highest", 1, Integer.MAX_VALUE, 24, 254, 255, 255, 255, 15);
        read("signed, ten bytes", 1, Integer.MIN_VALUE,
                24, 255, 255, 255, 255, 255, 255, 255, 255, 255, 127);
        read("fixed", 2, 0x84030281, 29, 0x81, 2, 3, 0x84);
        read("flag 0", 3, 0, 24, 0);
        read("flag 1", 3, 1, 24, 1);
        read("flag 2", 3, 1, 24, 2);
        read("flag of bit 32", 3, 1, 24, 128, 128, 128, 128, 16);
        read("flag of bit 63", 3, 1, 24, 128, 128, 128, 128, 128, 128, 128, 128, 128, 1);
        read("flag of bit 64", 3, 0, 24, 128, 128, 128, 128, 128, 128, 128, 128, 128, 2);
        read("flag back to 0", 3, 0, 24, 1, 24, 0);
    }

    private static void readLists() {
        OnceWire x = one(3, 1, true);
        DUE.same("four", Wire.digest(x, 0, 24, 2, 24, 1, 24, 0, 24, 4),
                (((4 * 31 + 1) * 31 - 1) * 31) * 31 + 2);
        DUE.same("five", Wire.handCall(x, 1, 1, 24, 2, 24, 1, 24, 0, 24, 4, 24, 4), OnceWire.GARBAGE);
        DUE.same("a list of before is gone", Wire.digest(x, 2), 0);
        DUE.same("lists may be apart", Wire.digest(x, 3, 24, 2, 8, 9, 24, 4), (2 * 31 + 1) * 31 + 2);
        OnceWire y = one(3, 2, true);
        int[] int1 = {29, 1, 0, 0, 0};
        DUE.same("five", Wire.handCall(y, 1, 1, Wire.join(int1, int1, int1, int1, int1)),
                OnceWire.GARBAGE);
        DUE.same("four", Wire.handCall(y, 2, 1, Wire.join(int1, int1, int1, int1)), OnceWire.RAN);
        OnceWire z = one(3, 3, true);
        DUE.same("flags", Wire.digest(z, 1, 24, 5, 24, 0), (2 * 31 + 1) * 31);
    }

    private static void passedOver() {
        read("another number", 0, 4, 24, 4, 16, 9, 32, 9);
        read("fixed where a varint is due", 0, 4, 24, 4, 29, 9, 9, 9, 9);
        read("varint where fixed is due", 2, 4, 29, 4, 0, 0, 0, 24, 9);
        read("eight bytes", 0, 4, 24, 4, 25, 24, 9, 24, 9, 24, 9, 24, 9);
        read("counted bytes", 0, 4, 24, 4, 26, 2, 24, 9);
        read("no counted bytes", 0, 4, 26, 0, 24, 4);
        read("counted bytes, longer varint", 0, 4, 24, 4, 26, 130, 0, 24, 9);
        read("highest key", 0, 4, 24, 4, 253, 255, 255, 255, 15, 1, 2, 3, 4);
        read("a number whose lowest bits are 3", 0, 4, 24, 4, 152, 128, 128, 128, 8, 9);
    }

    private static void garbage(String what, int... body) {
        OnceWire x = one(3, 0, false);
        DUE.same(what, Wire.handCall(x, 0, 1, body), OnceWire.GARBAGE);
        DUE.same(what + ": total", x.total(), 0);
    }

    private static void faultyKeys() {
        for (int key = 0; key < 8; key++) {
            garbage("key " + key, key, 0, 0, 0, 0, 0, 0, 0, 0);
        }
        garbage("key 7 in ten bytes", 135, 128, 128, 128, 128, 128, 128, 128, 128, 0, 0);
        garbage("key 2^32 + 24", 152, 128, 128, 128, 16, 1);
        garbage("key 2^63 + 24", 152, 128, 128, 128, 128, 128, 128, 128, 128, 1, 1);
        garbage("wire 3", 27, 0);
        garbage("wire 4", 28, 0);
        garbage("wire 6", 30, 0);
        garbage("wire 7", 31, 0);
        garbage("wire 3 of another number", 19, 0);
        garbage("a good one before", 24, 1, 27);
    }

    private static void faultyVarints() {
        garbage("key without an end", 152);
        garbage("key of eleven bytes", 152, 128, 128, 128, 128, 128, 128, 128, 128, 128, 0, 1);
        garbage("no varint", 24);
        garbage("varint without an end", 24, 128);
        garbage("varint of eleven bytes", 24, 128, 128, 128, 128, 128, 128, 128, 128, 128, 128, 0);
        garbage("the same, passed over", 32, 128, 128, 128, 128, 128, 128, 128, 128, 128, 128, 0);
    }

    private static void cutShort() {
        garbage("fixed", 29, 1, 2, 3);
        garbage("fixed of another number", 21, 1, 2, 3);
        garbage("eight bytes", 25, 1, 2, 3, 4, 5, 6, 7);
        garbage("counted bytes", 26, 3, 1, 2);
        garbage("no count", 26);
        garbage("2^31 counted bytes", 26, 128, 128, 128, 128, 8, 1);
        garbage("2^32 counted bytes", 26, 128, 128, 128, 128, 16);
        garbage("2^63 counted bytes", 26, 128, 128, 128, 128, 128, 128, 128, 128, 128, 1);
        garbage("2^64 - 1 counted bytes", 26, 255, 255, 255, 255, 255, 255, 255, 255, 255, 1);
    }
}
