/** Terms: the fragments of a message, as they are written and as both sides read them. */
public final class FragmentsTest {
    private static final Due DUE = new Due();
    private static final int[] CALL = Wire.record(0, 0, 3);
    private static final int[] REPLY = Wire.record(0, 1, 0, 1, 2, 3, 4);
    private static final int LAST = Integer.MIN_VALUE;

    public static void main(String[] args) {
        writtenSizes();
        writtenHeads();
        cutInTwo();
        emptyOnes();
        longOnes();
        lowest31Bits();
        theEnd();
        prefixes();
        missingOrLeft();
        DUE.end();
    }

    /** Gives the draft value ints whose body has that many bytes, in which 1 can't be reached. */
    private static void putBody(OnceWire x, int length) {
        int rest = length;
        for (int i = 0; rest > 0; i++) {
            int size = rest <= 6 ? rest : rest == 7 ? 5 : 6;
            DUE.yes("put", x.put(i / 4, 1 << (7 * (size - 2))));
            rest -= size;
        }
    }

    private static void writtenSizes() {
        DUE.of("A RECORD is a list of bytes. It goes into a MESSAGE as FRAGMENTS: pieces of 16 bytes,"
                + " the last one with the 1 to 16 that remain, each behind a word that is the number of"
                + " its bytes, plus -2^31 for the last piece.");
        for (int length = 0; length <= 96; length++) {
            if (length != 1) {
                writtenSize(length);
            }
        }
    }

    private static void writtenSize(int length) {
        OnceWire x = new OnceWire(0);
        for (int f = 0; f < 4; f++) {
            x.field(f + 1, 0, true);
        }
        putBody(x, length);
        x.call(3);
        int record = 12 + length;
        int pieces = (record + 15) / 16;
        DUE.same("bytes of a record of " + record, x.size(0), record + 4 * pieces);
        for (int piece = 0; piece < pieces; piece++) {
            boolean last = piece == pieces - 1;
            int at = 20 * piece;
            DUE.same("word's first byte", x.byteAt(0, at), last ? 128 : 0);
            DUE.same("word's second byte", x.byteAt(0, at + 1), 0);
            DUE.same("word's third byte", x.byteAt(0, at + 2), 0);
            DUE.same("word's last byte", x.byteAt(0, at + 3), last ? record - 16 * piece : 16);
        }
        DUE.same("read back", x.deliver(0), OnceWire.RAN);
    }

    private static void writtenHeads() {
        // 12, 15, 16, 17, 31, 32 and 33 bytes of a record.
        int[] bodies = {0, 3, 4, 5, 19, 20, 21};
        int[][] heads = {{LAST + 12}, {LAST + 15}, {LAST + 16}, {16, LAST + 1}, {16, LAST + 15},
            {16, LAST + 16}, {16, 16, LAST + 1}};
        for (int n = 0; n < bodies.length; n++) {
            OnceWire x = new OnceWire(0);
            x.field(1, 0, true);
            putBody(x, bodies[n]);
            x.call(3);
            for (int piece = 0; piece < heads[n].length; piece++) {
                int[] head = Wire.word(heads[n][piece]);
                for (int i = 0; i < 4; i++) {
                    DUE.same("record of " + (12 + bodies[n]), x.byteAt(0, 20 * piece + i), head[i]);
                }
            }
        }
    }

    /** The message is read as a record that says so at the server, and at the client. */
    private static void said(String what, int want, int... message) {
        OnceWire x = new OnceWire(0);
        DUE.same(what + ", to the server", Wire.hand(x, true, message), want);
        DUE.same(what + ": runs", x.runs(), want == OnceWire.RAN ? 1 : 0);
        int atClient = want == OnceWire.RAN ? OnceWire.WRONG : OnceWire.BROKEN;
        DUE.same(what + ", to the client", Wire.hand(x, false, message), atClient);
    }

    private static void accepted(String what, int want, int... message) {
        OnceWire x = new OnceWire(0);
        x.call(0);
        DUE.same(what + ", a reply", Wire.hand(x, false, message), want);
        DUE.same(what + ", its status", x.status(0), want == OnceWire.ACCEPTED ? 0 : OnceWire.PENDING);
        DUE.same(what + ", its result", x.result(0), want == OnceWire.ACCEPTED ? 0x01020304 : 0);
    }

    /** The record from byte to byte as a fragment. */
    private static int[] piece(int[] record, int from, int to, boolean last) {
        return Wire.join(Wire.word(to - from + (last ? LAST : 0)),
                java.util.Arrays.copyOfRange(record, from, to));
    }

    private static void cutInTwo() {
        DUE.of("To read the record from the bytes of a message: a word; then as many bytes as it says in"
                + " its lowest 31 bits (perhaps none);");
        for (int at = 0; at <= CALL.length; at++) {
            said("cut at " + at, OnceWire.RAN, Wire.join(piece(CALL, 0, at, false),
                    piece(CALL, at, CALL.length, true)));
        }
        for (int at = 0; at <= REPLY.length; at++) {
            accepted("cut at " + at, OnceWire.ACCEPTED, Wire.join(piece(REPLY, 0, at, false),
                    piece(REPLY, at, REPLY.length, true)));
        }
        int[] singles = {};
        for (int i = 0; i < CALL.length; i++) {
            singles = Wire.join(singles, piece(CALL, i, i + 1, i == CALL.length - 1));
        }
        said("one byte each", OnceWire.RAN, singles);
    }

    private static void emptyOnes() {
        said("empty ones before", OnceWire.RAN, Wire.join(Wire.words(0, 0, 0), Wire.oneFragment(CALL)));
        said("empty ones between", OnceWire.RAN, Wire.join(piece(CALL, 0, 5, false), Wire.words(0, 0),
                piece(CALL, 5, 12, true)));
        said("empty ones behind", OnceWire.RAN, Wire.join(piece(CALL, 0, 12, false), Wire.words(0, 0, LAST)));
        accepted("empty ones about", OnceWire.ACCEPTED, Wire.join(Wire.words(0), piece(REPLY, 0, 16, false),
                Wire.words(0, LAST)));
        said("as many empty ones as the draft bytes take", OnceWire.RAN,
                Wire.join(Wire.words(new int[46]), Wire.oneFragment(CALL)));
        said("a record of no bytes", OnceWire.BROKEN, Wire.words(LAST));
        said("a record of no bytes, two fragments", OnceWire.BROKEN, Wire.words(0, LAST));
        said("empty ones without a last", OnceWire.BROKEN, Wire.words(0));
        said("fifty empty ones without a last", OnceWire.BROKEN, Wire.words(new int[50]));
    }

    private static void longOnes() {
        for (int length = 15; length <= 17; length++) {
            said(length + " bytes in one", OnceWire.RAN, Wire.oneFragment(filled(length)));
        }
        said("196 bytes in one", OnceWire.RAN, Wire.oneFragment(filled(196)));
        said("192 bytes in two", OnceWire.RAN, Wire.join(piece(filled(192), 0, 100, false),
                piece(filled(192), 100, 192, true)));
    }

    /** A call record of that many bytes with one field that is passed over. */
    private static int[] filled(int length) {
        int rest = length - 12 - 2 - (length > 141 ? 1 : 0);
        return Wire.first(length, Wire.join(CALL, Wire.bytes(10), Wire.varint(rest)));
    }

    private static void lowest31Bits() {
        int[] counts = {Integer.MAX_VALUE, 1 << 30, 1 << 24, (1 << 24) + 12, (1 << 16) + 12, (1 << 8) + 12,
            (1 << 30) + 12};
        for (int count : counts) {
            said(count + " bytes", OnceWire.BROKEN, Wire.join(Wire.word(count), CALL));
            said(count + " bytes, last", OnceWire.BROKEN, Wire.join(Wire.word(count + LAST), CALL));
            said(count + " bytes, behind one", OnceWire.BROKEN, Wire.join(piece(CALL, 0, 12, false),
                    Wire.word(count), CALL));
            said(count + " bytes, last, behind one", OnceWire.BROKEN, Wire.join(piece(CALL, 0, 12, false),
                    Wire.word(count + LAST), CALL));
            accepted(count + " bytes, last", OnceWire.BROKEN, Wire.join(Wire.word(count + LAST), REPLY));
        }
    }

    private static void theEnd() {
        DUE.of("then, if the word was negative, the bytes must end, else the next fragment follows.");
        said("negative, and the end", OnceWire.RAN, piece(CALL, 0, 12, true));
        said("not negative, and the end", OnceWire.BROKEN, piece(CALL, 0, 12, false));
        said("negative, then one more", OnceWire.BROKEN, Wire.join(piece(CALL, 0, 12, true), Wire.word(LAST)));
        said("negative, then one more with bytes", OnceWire.BROKEN,
                Wire.join(piece(CALL, 0, 12, true), piece(CALL, 0, 12, true)));
        said("two, both not negative", OnceWire.BROKEN,
                Wire.join(piece(CALL, 0, 6, false), piece(CALL, 6, 12, false)));
        said("two, both negative", OnceWire.BROKEN,
                Wire.join(piece(CALL, 0, 6, true), piece(CALL, 6, 12, true)));
        accepted("not negative, and the end", OnceWire.BROKEN, piece(REPLY, 0, 16, false));
        accepted("negative, then one more", OnceWire.BROKEN,
                Wire.join(piece(REPLY, 0, 16, true), Wire.word(LAST)));
    }

    private static void prefixes() {
        DUE.of("When bytes are missing or left over, the message is BROKEN.");
        int[] call = Wire.join(piece(CALL, 0, 12, false), Wire.words(0, LAST));
        for (int length = 0; length <= call.length + 5; length++) {
            said(length + " bytes of " + call.length, length == call.length ? OnceWire.RAN : OnceWire.BROKEN,
                    Wire.first(length, call));
        }
        int[] reply = Wire.join(piece(REPLY, 0, 16, false), Wire.words(0, LAST));
        for (int length = 0; length <= reply.length + 5; length++) {
            accepted(length + " bytes of " + reply.length,
                    length == reply.length ? OnceWire.ACCEPTED : OnceWire.BROKEN, Wire.first(length, reply));
        }
    }

    private static void missingOrLeft() {
        for (int said = 0; said <= 16; said++) {
            said("a word of " + said + " before twelve", said == 12 ? OnceWire.RAN : OnceWire.BROKEN,
                    Wire.join(Wire.word(LAST + said), CALL));
            said("a word of " + said + " before six, the second",
                    said == 6 ? OnceWire.RAN : OnceWire.BROKEN, Wire.join(piece(CALL, 0, 6, false),
                    Wire.word(LAST + said), java.util.Arrays.copyOfRange(CALL, 6, 12)));
        }
        for (int said = 12; said <= 20; said++) {
            accepted("a word of " + said + " before sixteen",
                    said == 16 ? OnceWire.ACCEPTED : OnceWire.BROKEN, Wire.join(Wire.word(LAST + said), REPLY));
        }
    }
}
