/** Terms: varints, written and read, as key, as an int, as an int passed over, and as a count. */
public final class VarintTest {
    private static final Due DUE = new Due();
    private static final int LONGEST = 10;

    public static void main(String[] args) {
        writtenInts();
        writtenKeys();
        lengths();
        withoutEnd();
        lastByte();
        bitsOfInts();
        bitsOfKeys();
        bitsOfCounts();
        DUE.end();
    }

    private static OnceWire one(int kind) {
        OnceWire x = new OnceWire(0);
        x.field(1, kind, false);
        return x;
    }

    private static void read(String what, int kind, int want, int... body) {
        OnceWire x = one(kind);
        DUE.same(what, Wire.handCall(x, 0, 2, body), OnceWire.RAN);
        DUE.same(what, x.total(), want);
    }

    private static void garbage(String what, int... body) {
        for (int kind = 0; kind < 4; kind++) {
            DUE.same(what, Wire.handCall(one(kind), 0, 2, body), OnceWire.GARBAGE);
        }
    }

    private static void writtenInts() {
        DUE.of("A VARINT of a number of 64 bits is: as many bytes as it needs (at least one), seven"
                + " bits each, the lowest first, and 128 added to all but the last one.");
        int[][] all = {{0, 0}, {1, 1}, {126, 126}, {127, 127}, {128, 128, 1}, {129, 129, 1},
            {16383, 255, 127}, {16384, 128, 128, 1}, {16385, 129, 128, 1},
            {2097151, 255, 255, 127}, {2097152, 128, 128, 128, 1},
            {268435455, 255, 255, 255, 127}, {268435456, 128, 128, 128, 128, 1},
            {Integer.MAX_VALUE, 255, 255, 255, 255, 7}, {Integer.MIN_VALUE, 128, 128, 128, 128, 8},
            {-2, 254, 255, 255, 255, 15}, {-1, 255, 255, 255, 255, 15}};
        for (int[] row : all) {
            OnceWire x = new OnceWire(0);
            x.field(1, 0, true);
            x.put(0, row[0]);
            x.call(0);
            int[] body = row.clone();
            body[0] = 8;
            DUE.callRecord("varint of " + row[0], x, 0, 0, 0, body);
        }
    }

    private static void writtenKeys() {
        int[][] keys = {{15, 120, 125}, {16, 128, 133}};
        for (int[] key : keys) {
            OnceWire x = new OnceWire(0);
            x.field(key[0], 0, true);
            x.put(0, 3);
            x.call(0);
            OnceWire y = new OnceWire(0);
            y.field(key[0], 2, true);
            y.put(0, 3);
            y.call(0);
            int[] second = key[0] == 16 ? Wire.bytes(1) : Wire.bytes();
            DUE.callRecord("key of " + key[0], x, 0, 0, 0,
                    Wire.join(Wire.bytes(key[1]), second, Wire.bytes(3)));
            DUE.callRecord("key of fixed " + key[0], y, 0, 0, 0,
                    Wire.join(Wire.bytes(key[2]), second, Wire.bytes(3, 0, 0, 0)));
        }
    }

    private static void lengths() {
        DUE.of("When a varint is READ, bytes are taken up to and with the first that is less than 128;"
                + " when there is none among the first ten of those left, it is FAULTY.");
        for (int length = 1; length <= LONGEST + 1; length++) {
            int[][] bodies = {
                Wire.join(Wire.varint(8, length), Wire.bytes(1)),
                Wire.join(Wire.bytes(8), Wire.varint(1, length)),
                Wire.join(Wire.bytes(8, 1, 16), Wire.varint(9, length)),
                Wire.join(Wire.bytes(8, 1, 10), Wire.varint(2, length), Wire.bytes(8, 9))};
            for (int[] body : bodies) {
                if (length <= LONGEST) {
                    read(length + " bytes", 0, 1, body);
                    read(length + " bytes, and an entry behind it", 0, 6, Wire.join(body, Wire.bytes(8, 6)));
                } else {
                    garbage(length + " bytes", body);
                    garbage(length + " bytes, and an entry behind it", Wire.join(body, Wire.bytes(8, 6)));
                }
            }
        }
    }

    private static void withoutEnd() {
        for (int length = 0; length <= LONGEST + 1; length++) {
            int[] high = Wire.times(length, 136);
            if (length > 0) {
                garbage("key of " + length + " bytes without an end", high);
            }
            garbage("int of " + length + " bytes without an end", Wire.join(Wire.bytes(8), high));
            garbage("other int of " + length + " bytes without an end", Wire.join(Wire.bytes(16), high));
            garbage("count of " + length + " bytes without an end", Wire.join(Wire.bytes(10), high));
        }
    }

    private static void lastByte() {
        read("126 is the last", 0, 2, 8, 126, 8, 2);
        read("127 is the last", 0, 2, 8, 127, 8, 2);
        read("127 alone", 0, 127, 8, 127);
        read("128 is not the last", 0, 8 * 128, 8, 128, 8);
        read("129 is not the last", 0, 8 * 128 + 1, 8, 129, 8);
        read("255 is not the last", 0, 8 * 128 + 127, 8, 255, 8);
        garbage("128 alone", 8, 128);
    }

    /** A varint of ten bytes whose one bit is at that place, perhaps beyond the 64. */
    private static int[] bit(int place, int... others) {
        int[] all = Wire.times(LONGEST, 128);
        all[LONGEST - 1] = 0;
        all[place / 7] += 1 << (place % 7);
        for (int i = 0; i < others.length; i++) {
            all[i] += others[i];
        }
        return all;
    }

    private static void bitsOfInts() {
        DUE.of("Its number is made of the lowest seven bits of each, the first byte's the lowest; what"
                + " is beyond 64 bits is dropped.");
        for (int place = 0; place < 70; place++) {
            int[] body = Wire.join(Wire.bytes(8), bit(place));
            read("count of bit " + place, 0, place < 32 ? 1 << place : 0, body);
            read("flag of bit " + place, 3, place < 64 ? 1 : 0, body);
            int signed = place == 0 ? -1 : place < 32 ? 1 << (place - 1) : 0;
            read("signed of bit " + place, 1, signed, body);
        }
        read("all bits of nine bytes", 0, -1, Wire.join(Wire.bytes(8), Wire.times(8, 255), Wire.bytes(127)));
        read("all bits", 0, -1, Wire.join(Wire.bytes(8), Wire.times(9, 255), Wire.bytes(127)));
        read("all bits", 3, 1, Wire.join(Wire.bytes(8), Wire.times(9, 255), Wire.bytes(127)));
        read("all bits beyond 64", 3, 0, Wire.join(Wire.bytes(8), Wire.times(9, 128), Wire.bytes(126)));
    }

    private static void bitsOfKeys() {
        for (int place = 32; place < 70; place++) {
            int[] body = Wire.join(bit(place, 8), Wire.bytes(5));
            if (place < 64) {
                garbage("key 8 with bit " + place, body);
            } else {
                read("key 8 with bit " + place, 0, 5, body);
            }
        }
        garbage("no bits but those beyond 64", Wire.join(Wire.times(9, 128), Wire.bytes(126, 5)));
    }

    private static void bitsOfCounts() {
        for (int place = 8; place < 70; place++) {
            int[] body = Wire.join(Wire.bytes(8, 5, 10), bit(place, 3), Wire.bytes(8, 6, 7));
            if (place < 64) {
                garbage("3 bytes and bit " + place, body);
            } else {
                read("3 bytes and bit " + place, 0, 5, body);
            }
        }
    }
}
