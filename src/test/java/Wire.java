import java.io.ByteArrayOutputStream;
import java.nio.ByteBuffer;
import java.util.Arrays;

/** Makes records and messages as the document tells them, apart from the class under test. */
final class Wire {
    private Wire() {
    }

    static int[] word(int w) {
        return words(w);
    }

    static int[] words(int... ws) {
        ByteBuffer all = ByteBuffer.allocate(4 * ws.length);
        for (int w : ws) {
            all.putInt(w);
        }
        return ints(all.array());
    }

    static int[] bytes(int... bs) {
        return bs;
    }

    static int[] join(int[]... parts) {
        ByteArrayOutputStream all = new ByteArrayOutputStream();
        for (int[] part : parts) {
            for (int b : part) {
                all.write(b);
            }
        }
        return ints(all.toByteArray());
    }

    static int[] times(int count, int... part) {
        int[] all = {};
        for (int i = 0; i < count; i++) {
            all = join(all, part);
        }
        return all;
    }

    static int[] first(int count, int... all) {
        return Arrays.copyOf(all, count);
    }

    /** The varint of the number, which is read without sign. */
    static int[] varint(long number) {
        int length = 1;
        while (length < 10 && number >>> (7 * length) != 0) {
            length++;
        }
        return varint(number, length);
    }

    /** The number's lowest seven bits in each of so many bytes, needed or not. */
    static int[] varint(long number, int length) {
        int[] all = new int[length];
        for (int i = 0; i < length; i++) {
            int seven = i < 10 ? (int) (number >>> (7 * i)) & 127 : 0;
            all[i] = seven + (i == length - 1 ? 0 : 128);
        }
        return all;
    }

    static int[] record(int first, int second, int third, int... body) {
        return join(words(first, second, third), body);
    }

    static int[] message(int... record) {
        int[] all = {};
        for (int from = 0; from < record.length; from += 16) {
            int to = Math.min(from + 16, record.length);
            int head = to - from + (to == record.length ? Integer.MIN_VALUE : 0);
            all = join(all, word(head), Arrays.copyOfRange(record, from, to));
        }
        return all;
    }

    /** The record as one fragment, however long it is. */
    static int[] oneFragment(int... record) {
        return join(word(record.length + Integer.MIN_VALUE), record);
    }

    static void add(OnceWire x, int... bytes) {
        for (int b : bytes) {
            if (!x.add(b)) {
                throw new IllegalStateException("a test's bytes were not taken");
            }
        }
    }

    static int hand(OnceWire x, boolean server, int... message) {
        add(x, message);
        return x.hand(server);
    }

    static int handCall(OnceWire x, int xid, int procedure, int... body) {
        return hand(x, true, oneFragment(record(xid, 0, procedure, body)));
    }

    static int handReply(OnceWire x, int xid, int status, int... rest) {
        return hand(x, false, message(record(xid, 1, status, rest)));
    }

    /** Digest of the body as the server sees it: procedure 2 makes it the total. */
    static int digest(OnceWire x, int xid, int... body) {
        int said = handCall(x, xid, 2, body);
        if (said != OnceWire.RAN) {
            throw new IllegalStateException("a test's body was answered by " + said);
        }
        return x.total();
    }

    private static int[] ints(byte[] bytes) {
        int[] all = new int[bytes.length];
        for (int i = 0; i < bytes.length; i++) {
            all[i] = bytes[i] & 255;
        }
        return all;
    }
}
