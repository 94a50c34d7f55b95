/** Terms: format 0, how its bodies are written and read. */
public final class TaggedFormatTest {
    private static final Due DUE = new Due();
    private static final long TWO32 = 1L << 32;

    public static void main(String[] args) {
        writtenOrder();
        writtenZeros();
        writtenNumbers();
        writtenInts();
        emptyBody();
        leastKey();
        greatestKey();
        varintEntries();
        fourByteEntries();
        eightByteEntries();
        countedEntries();
        otherWires();
        tooFewBytes();
        namedFields();
        singleAgain();
        fifthInt();
        passedOver();
        readFixed();
        readCounts();
        readSigned();
        readFlags();
        faultyLeavesNothing();
        DUE.end();
    }

    private static OnceWire one(int number, int kind, boolean repeated) {
        OnceWire x = new OnceWire(0);
        x.field(number, kind, repeated);
        return x;
    }

    /** The body is read, and gives the single field with number 3 that int. */
    private static void read(String what, int kind, int want, int... body) {
        OnceWire x = one(3, kind, false);
        DUE.same(what, Wire.handCall(x, 0, 2, body), OnceWire.RAN);
        DUE.same(what, x.total(), want);
    }

    private static void garbage(String what, int... body) {
        for (int kind = 0; kind < 4; kind++) {
            OnceWire x = one(3, kind, false);
            DUE.same(what, Wire.handCall(x, 0, 2, body), OnceWire.GARBAGE);
            DUE.same(what + ": runs", x.runs(), 0);
        }
    }

    private static int[] entry(long key, int... payload) {
        return Wire.join(Wire.varint(key), payload);
    }

    private static void writtenOrder() {
        DUE.of("FORMAT 0. To write a value: for each field in order, and for each of its ints in order"
                + " (a single field only when its int is not 0): the varint of 8 times its number plus"
                + " its wire, and then:");
        OnceWire x = new OnceWire(0);
        x.field(30, 2, false);
        x.field(1, 1, true);
        x.field(15, 3, false);
        x.field(16, 0, false);
        x.put(3, 5);
        x.put(2, 1);
        x.put(1, 0);
        x.put(1, 2);
        x.put(0, 1);
        x.call(0);
        DUE.callRecord("in the order of the indices", x, 0, 0, 0,
                245, 1, 1, 0, 0, 0, 8, 0, 8, 4, 120, 1, 128, 1, 5);
        x.put(0, 0);
        x.put(2, 0);
        x.call(0);
        DUE.callRecord("back to 0", x, 1, 1, 0, 8, 0, 8, 4, 128, 1, 5);
    }

    private static void writtenZeros() {
        int[][] ofOne = {{24, 1}, {24, 2}, {29, 1, 0, 0, 0}, {24, 1}};
        int[][] ofZero = {{24, 0}, {24, 0}, {29, 0, 0, 0, 0}, {24, 0}};
        int[][] ofMinusOne = {{24, 255, 255, 255, 255, 15}, {24, 1}, {29, 255, 255, 255, 255}};
        for (int kind = 0; kind < 4; kind++) {
            written("single 0", kind, false, 0);
            written("single 1", kind, false, 1, ofOne[kind]);
            written("repeated 0", kind, true, 0, ofZero[kind]);
            written("repeated 1", kind, true, 1, ofOne[kind]);
            if (kind != 3) {
                written("single -1", kind, false, -1, ofMinusOne[kind]);
            }
            OnceWire none = one(3, kind, true);
            none.call(0);
            DUE.callRecord("an empty list", none, 0, 0, 0);
        }
    }

    private static void written(String what, int kind, boolean repeated, int v, int... body) {
        OnceWire x = one(3, kind, repeated);
        DUE.yes("put", x.put(0, v));
        x.call(2);
        DUE.callRecord(what + " of kind " + kind, x, 0, 0, 2, body);
        DUE.same(what + " of kind " + kind + " read back", x.deliver(0), OnceWire.RAN);
        DUE.same(what + " of kind " + kind + " read back", x.total(), repeated ? 31 + v : v);
    }

    private static void writtenNumbers() {
        for (int number = 1; number <= 30; number++) {
            OnceWire count = one(number, 0, false);
            OnceWire fixed = one(number, 2, false);
            count.put(0, 1);
            fixed.put(0, 1);
            count.call(0);
            fixed.call(0);
            DUE.callRecord("number " + number, count, 0, 0, 0, entry(8 * number, 1));
            DUE.callRecord("fixed number " + number, fixed, 0, 0, 0, entry(8 * number + 5, 1, 0, 0, 0));
        }
    }

    private static void writtenInts() {
        DUE.of("COUNT: the varint of its 32 bits read without sign.");
        written("greatest", 0, true, Integer.MAX_VALUE, 24, 255, 255, 255, 255, 7);
        written("least", 0, true, Integer.MIN_VALUE, 24, 128, 128, 128, 128, 8);
        written("-1", 0, true, -1, 24, 255, 255, 255, 255, 15);
        DUE.of("SIGNED: the varint of 2 v for v from 0 on, of -2 v - 1 for negative v.");
        int[][] signed = {{0, 0}, {-1, 1}, {1, 2}, {-2, 3}, {63, 126}, {-64, 127}, {64, 128, 1},
            {-65, 129, 1}, {Integer.MAX_VALUE, 254, 255, 255, 255, 15},
            {Integer.MIN_VALUE, 255, 255, 255, 255, 15},
            {Integer.MIN_VALUE + 1, 253, 255, 255, 255, 15}, {1 << 30, 128, 128, 128, 128, 8},
            {-(1 << 30), 255, 255, 255, 255, 7}, {-(1 << 30) - 1, 129, 128, 128, 128, 8}};
        for (int[] row : signed) {
            int[] body = row.clone();
            body[0] = 24;
            written("int " + row[0], 1, true, row[0], body);
        }
        DUE.of("FLAG: the byte 0 or 1 that it is.");
        written("0", 3, true, 0, 24, 0);
        written("1", 3, true, 1, 24, 1);
        DUE.of("FIXED: the four bytes of the int, the lowest first.");
        written("four bytes", 2, true, 0x81020384, 29, 0x84, 3, 2, 0x81);
        written("-2", 2, true, -2, 29, 254, 255, 255, 255);
        written("least", 2, true, Integer.MIN_VALUE, 29, 0, 0, 0, 128);
        written("greatest", 2, true, Integer.MAX_VALUE, 29, 255, 255, 255, 127);
    }

    private static void emptyBody() {
        DUE.of("To read a value from a BODY: as long as bytes are left: a varint is read, the key; it"
                + " must be from 8 to 2^32 - 1.");
        for (int kind = 0; kind < 4; kind++) {
            read("no bytes", kind, 0);
            DUE.same("no bytes, a list", Wire.digest(one(3, kind, true), 0), 0);
        }
        DUE.same("no bytes, no field", Wire.digest(new OnceWire(0), 0), 0);
    }

    /** Payloads of 0 that are whole for the wires 0, 1, 2 and 5. */
    private static int[] zeros(int wire) {
        return Wire.times(wire == 1 ? 8 : wire == 5 ? 4 : 1, 0);
    }

    private static void leastKey() {
        int[] wires = {0, 1, 2, 5};
        for (int wire : wires) {
            for (int length = 1; length <= 10; length += 9) {
                garbage("key " + wire, Wire.join(Wire.varint(wire, length), zeros(wire)));
                read("key " + (8 + wire), 0, 0, Wire.join(Wire.varint(8 + wire, length), zeros(wire)));
                read("key " + (16 + wire), 0, 0, Wire.join(Wire.varint(16 + wire, length), zeros(wire)));
            }
        }
        garbage("key 7", 7, 0, 0, 0, 0, 0, 0, 0, 0);
        DUE.same("key 8 of a field", Wire.digest(one(1, 0, false), 0, 8, 4), 4);
        garbage("key 0 behind others", 24, 1, 0, 0);
    }

    private static void greatestKey() {
        int[] wires = {0, 1, 2, 5};
        for (int wire : wires) {
            read("the greatest keys", 0, 0, entry(TWO32 - 8 + wire, zeros(wire)));
            garbage("2^32 + " + wire, entry(TWO32 + wire, zeros(wire)));
            garbage("2^32 + 24 + " + wire, entry(TWO32 + 24 + wire, zeros(wire)));
            garbage("2^33 + 24 + " + wire, entry(2 * TWO32 + 24 + wire, zeros(wire)));
            garbage("2^63 + 24 + " + wire, entry(Long.MIN_VALUE + 24 + wire, zeros(wire)));
            garbage("2^64 - 8 + " + wire, entry(-8L + wire, zeros(wire)));
        }
        garbage("2^32 - 1 has bits of no wire", entry(TWO32 - 1, 0, 0, 0, 0, 0, 0, 0, 0));
    }

    private static void varintEntries() {
        DUE.of("By its lowest three bits: 0: a varint is read.");
        read("one byte", 0, 7, 24, 7);
        read("two bytes", 0, 7, 24, 135, 0);
        read("of another number", 0, 0, 32, 7);
        read("of another number, two bytes", 0, 0, 32, 135, 0);
        garbage("a byte more", 24, 7, 0);
        garbage("of another number, a byte more", 32, 7, 0);
    }

    private static void fourByteEntries() {
        DUE.of("5: four bytes are taken.");
        read("four", 2, 0x04030201, 29, 1, 2, 3, 4);
        read("four of another number", 2, 0, 37, 1, 2, 3, 4);
        read("four that look like more", 2, -1, 29, 255, 255, 255, 255);
        read("an entry behind four", 2, 1, 37, 29, 29, 29, 29, 29, 1, 0, 0, 0);
        garbage("three", 29, 1, 2, 3);
        garbage("three of another number", 37, 1, 2, 3);
        garbage("five", 29, 1, 2, 3, 4, 0);
        garbage("five of another number", 37, 1, 2, 3, 4, 0);
    }

    private static void eightByteEntries() {
        DUE.of("1: eight bytes are taken.");
        read("eight", 0, 0, 25, 24, 9, 24, 9, 24, 9, 24, 9);
        read("eight of another number", 0, 0, 9, 255, 255, 255, 255, 255, 255, 255, 255);
        read("an entry behind eight", 0, 4, 25, 24, 9, 24, 9, 24, 9, 24, 9, 24, 4);
        garbage("seven", 25, 24, 9, 24, 9, 24, 9, 24);
        garbage("seven of another number", 9, 1, 2, 3, 4, 5, 6, 7);
        garbage("nine", 25, 24, 9, 24, 9, 24, 9, 24, 9, 0);
    }

    private static void countedEntries() {
        DUE.of("2: a varint is read, and as many bytes as it says (read without sign) are taken.");
        for (int count = 0; count < 150; count += count < 4 ? 1 : 41) {
            int[] counted = Wire.join(Wire.bytes(26), Wire.varint(count), Wire.times(count, 255));
            read(count + " bytes", 0, 0, counted);
            read(count + " bytes, then an entry", 0, 4, Wire.join(counted, Wire.bytes(24, 4)));
            garbage(count + " bytes and one more", Wire.join(counted, Wire.bytes(0)));
            if (count > 0) {
                garbage(count + " bytes but one", Wire.first(counted.length - 1, counted));
            }
        }
        read("bytes of another number", 0, 4, 18, 2, 24, 9, 24, 4);
        long[] many = {1L << 31, (1L << 31) + 2, TWO32 - 1, TWO32, TWO32 + 2, Long.MAX_VALUE, Long.MIN_VALUE,
            Long.MIN_VALUE + 2, -1L, -3L};
        for (long count : many) {
            garbage(Long.toUnsignedString(count) + " bytes",
                    Wire.join(Wire.bytes(26), Wire.varint(count), Wire.bytes(24, 4)));
            garbage(Long.toUnsignedString(count) + " bytes of another number",
                    Wire.join(Wire.bytes(18), Wire.varint(count), Wire.bytes(24, 4)));
        }
    }

    private static void otherWires() {
        DUE.of("Others are faulty;");
        int[] faulty = {3, 4, 6, 7};
        int[] numbers = {1, 2, 3, 4};
        for (int wire : faulty) {
            for (int number : numbers) {
                garbage("wire " + wire + " of number " + number, 8 * number + wire);
                for (int count = 1; count <= 9; count++) {
                    garbage("wire " + wire + " of number " + number + ", " + count + " bytes",
                            Wire.join(Wire.bytes(8 * number + wire), Wire.times(count, 0)));
                }
                garbage("wire " + wire + " of number " + number + " behind others",
                        24, 1, 8 * number + wire, 24, 1, 24, 1);
            }
        }
    }

    private static void tooFewBytes() {
        DUE.of("so it is when too few bytes are left.");
        int[] body = {24, 129, 1, 29, 1, 2, 3, 4, 25, 1, 2, 3, 4, 5, 6, 7, 8, 26, 131, 0, 1, 2, 3, 152, 0, 5};
        int[] ends = {0, 3, 8, 17, 23, 26};
        for (int length = 0; length <= body.length; length++) {
            boolean whole = java.util.Arrays.binarySearch(ends, length) >= 0;
            DUE.same(length + " bytes of a body", Wire.handCall(one(3, 0, false), 0, 0,
                    Wire.first(length, body)), whole ? OnceWire.RAN : OnceWire.GARBAGE);
        }
    }

    private static void namedFields() {
        DUE.of("When there is a field whose number is the key without its lowest three bits and whose"
                + " wire is those three bits, it gets an int");
        int[] numbers = {1, 15, 16, 30};
        for (int number : numbers) {
            for (int kind = 0; kind < 4; kind++) {
                int wire = kind == 2 ? 5 : 0;
                int[] payload = kind == 2 ? Wire.bytes(2, 0, 0, 0) : Wire.bytes(2);
                int want = kind == 1 || kind == 3 ? 1 : 2;
                int[] own = entry(8 * number + wire, payload);
                DUE.same("number " + number, Wire.digest(one(number, kind, false), 0, own), want);
                long[] others = {number - 1, number + 1, number + 32, number + 128, number + 256,
                    number + (1 << 16), number + (1L << 28)};
                for (long other : others) {
                    if (other > 0) {
                        int[] body = Wire.join(own, entry(8 * other + wire, zeros(wire)));
                        DUE.same("number " + other, Wire.digest(one(number, kind, false), 0, body), want);
                    }
                }
            }
        }
        OnceWire all = new OnceWire(0);
        for (int f = 0; f < 4; f++) {
            all.field(10 - f, 0, false);
        }
        DUE.same("each of four", Wire.digest(all, 0, 56, 4, 64, 3, 72, 2, 80, 1),
                ((1 * 31 + 2) * 31 + 3) * 31 + 4);
    }

    private static void singleAgain() {
        DUE.of("(a single one instead of the one it had;");
        read("the second counts", 0, 5, 24, 172, 2, 24, 5);
        read("the second counts, 0 too", 0, 0, 24, 172, 2, 24, 0);
        read("the sixth counts", 1, -1, 24, 2, 24, 2, 24, 2, 24, 2, 24, 2, 24, 1);
        read("fixed", 2, 0, 29, 1, 0, 0, 0, 29, 0, 0, 0, 0);
        read("flag", 3, 0, 24, 1, 24, 0);
        read("apart", 0, 6, 24, 5, 32, 9, 24, 6, 16, 9);
    }

    private static void fifthInt() {
        DUE.of("a repeated one at the end, and a fifth one is faulty);");
        DUE.same("at the end", Wire.digest(one(3, 0, true), 0, 24, 2, 8, 9, 24, 3), (2 * 31 + 2) * 31 + 3);
        for (int kind = 0; kind < 4; kind++) {
            int[] zero = kind == 2 ? Wire.bytes(29, 0, 0, 0, 0) : Wire.bytes(24, 0);
            int[] otherWire = kind == 2 ? Wire.bytes(24, 0) : Wire.bytes(29, 0, 0, 0, 0);
            for (int count = 0; count <= 6; count++) {
                DUE.same(count + " ints of kind " + kind,
                        Wire.handCall(one(3, kind, true), 0, 0, Wire.times(count, zero)),
                        count <= 4 ? OnceWire.RAN : OnceWire.GARBAGE);
            }
            DUE.same("others are not counted", Wire.handCall(one(3, kind, true), 0, 0,
                    Wire.join(Wire.times(4, zero), otherWire, Wire.bytes(32, 0))), OnceWire.RAN);
            OnceWire two = one(3, kind, true);
            two.field(2, 3, true);
            int[] fours = Wire.join(Wire.times(4, zero), Wire.times(4, 16, 1));
            DUE.same("four of each", Wire.handCall(two, 0, 0, fours), OnceWire.RAN);
            DUE.same("a fifth of the first", Wire.handCall(two, 1, 0, Wire.join(fours, zero)),
                    OnceWire.GARBAGE);
            DUE.same("a fifth of the second", Wire.handCall(two, 2, 0, Wire.join(fours, Wire.bytes(16, 1))),
                    OnceWire.GARBAGE);
        }
    }

    private static void passedOver() {
        DUE.of("all else is passed over.");
        read("other numbers", 0, 4, 24, 4, 16, 9, 32, 9);
        read("fixed where a varint is due", 0, 4, 24, 4, 29, 9, 9, 9, 9);
        read("a varint where fixed is due", 2, 4, 29, 4, 0, 0, 0, 24, 9);
        read("eight bytes", 0, 4, 24, 4, 25, 24, 9, 24, 9, 24, 9, 24, 9);
        read("counted bytes", 0, 4, 24, 4, 26, 2, 24, 9);
        read("no counted bytes", 0, 4, 26, 0, 24, 4);
        DUE.same("all, when there is no field", Wire.digest(new OnceWire(0), 0,
                24, 4, 29, 1, 2, 3, 4, 26, 1, 0, 25, 1, 2, 3, 4, 5, 6, 7, 8), 0);
        DUE.same("faulty ones are not, when there is no field", Wire.handCall(new OnceWire(0), 0, 0, 27),
                OnceWire.GARBAGE);
    }

    private static void readFixed() {
        DUE.of("The int is, of FIXED: the four bytes, the lowest first.");
        read("four bytes", 2, 0x84030281, 29, 0x81, 2, 3, 0x84);
        read("least", 2, Integer.MIN_VALUE, 29, 0, 0, 0, 128);
        read("greatest", 2, Integer.MAX_VALUE, 29, 255, 255, 255, 127);
        read("-1", 2, -1, 29, 255, 255, 255, 255);
        read("lowest byte", 2, 255, 29, 255, 0, 0, 0);
    }

    private static void ofVarint(int kind, long number, int want) {
        read(Long.toUnsignedString(number) + " of kind " + kind, kind, want,
                Wire.join(Wire.bytes(24), Wire.varint(number)));
        read(Long.toUnsignedString(number) + " of kind " + kind + " in ten bytes", kind, want,
                Wire.join(Wire.bytes(24), Wire.varint(number, 10)));
    }

    private static void readCounts() {
        DUE.of("Of the others, with n the varint's lowest 32 bits: COUNT: the int of these bits;");
        ofVarint(0, 0, 0);
        ofVarint(0, 1, 1);
        ofVarint(0, Integer.MAX_VALUE, Integer.MAX_VALUE);
        ofVarint(0, 1L << 31, Integer.MIN_VALUE);
        ofVarint(0, TWO32 - 1, -1);
        ofVarint(0, TWO32, 0);
        ofVarint(0, TWO32 + 1, 1);
        ofVarint(0, Long.MIN_VALUE, 0);
        ofVarint(0, -1L, -1);
    }

    private static void readSigned() {
        DUE.of("SIGNED: with h for n without its lowest bit, halved: h if that bit is 0, else -h - 1;");
        ofVarint(1, 0, 0);
        ofVarint(1, 1, -1);
        ofVarint(1, 2, 1);
        ofVarint(1, 3, -2);
        ofVarint(1, TWO32 - 3, Integer.MIN_VALUE + 1);
        ofVarint(1, TWO32 - 2, Integer.MAX_VALUE);
        ofVarint(1, TWO32 - 1, Integer.MIN_VALUE);
        ofVarint(1, TWO32, 0);
        ofVarint(1, TWO32 + 1, -1);
        ofVarint(1, Long.MIN_VALUE, 0);
        ofVarint(1, -1L, Integer.MIN_VALUE);
    }

    private static void readFlags() {
        DUE.of("FLAG: 0 if the whole varint (64 bits) is 0, else 1.");
        ofVarint(3, 0, 0);
        ofVarint(3, 1, 1);
        ofVarint(3, 2, 1);
        ofVarint(3, TWO32 - 1, 1);
        ofVarint(3, TWO32, 1);
        ofVarint(3, Long.MIN_VALUE, 1);
        ofVarint(3, -1L, 1);
        OnceWire list = one(3, 3, true);
        DUE.same("a list", Wire.digest(list, 1, 24, 5, 24, 0), (2 * 31 + 1) * 31);
    }

    private static void faultyLeavesNothing() {
        OnceWire x = one(3, 0, true);
        x.field(4, 0, false);
        DUE.same("faulty at its end", Wire.handCall(x, 1, 1, 24, 2, 24, 2, 32, 8, 24), OnceWire.GARBAGE);
        DUE.same("none of it is in the next value", Wire.digest(x, 2), 0);
        DUE.same("whole", Wire.handCall(x, 3, 1, 24, 2, 24, 2, 32, 8), OnceWire.RAN);
        DUE.same("none of it is in the next value", Wire.digest(x, 4, 24, 1), (31 + 1) * 31);
    }
}
