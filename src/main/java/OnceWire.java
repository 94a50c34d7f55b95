/**
 * A client and a server that exchange calls and replies as bytes over a network which may lose,
 * double and reorder them. All rows are made once, in the constructors; no later call makes one.
 */
public final class OnceWire {
    public static final int RAN = 0;
    public static final int AGAIN = 1;
    public static final int NOPROCEDURE = 2;
    public static final int GARBAGE = 3;
    public static final int ACCEPTED = 4;
    public static final int STALE = 5;
    public static final int PENDING = 3;
    public static final int NONE = -1;
    public static final int BROKEN = -2;
    public static final int WRONG = -3;
    public static final int BAD = -4;
    public static final int FULL = -5;

    private static final int DRAFT_BYTES = 200;
    // Four repeated fields of four ints, each with a key of two bytes and five bytes, make a record
    // of 12 + 112 bytes, which goes into eight fragments with a word before each.
    private static final int LONGEST_SENT = 156;
    private static final int LONGEST_REPLY = 20;
    private static final int HEADER_BYTES = 12;
    private static final int CALL_MARK = 0;
    private static final int REPLY_MARK = 1;
    private static final int STATUS_RAN = 0;
    private static final int STATUS_NOPROCEDURE = 1;
    private static final int STATUS_GARBAGE = 2;

    private final Schema schema;
    private final Value draftValue;
    private final Bytes draftBytes;
    private final Network network;
    private final Server server;
    private final Client client;

    public OnceWire(int format) {
        schema = new Schema();
        draftValue = new Value(schema);
        draftBytes = new Bytes(DRAFT_BYTES);
        network = new Network();
        Format bodies = (format & 1) == 1 ? new WordFormat(schema) : new TaggedFormat(schema);
        server = new Server(network, bodies, new Value(schema));
        client = new Client(network, bodies);
    }

    public int field(int number, int kind, boolean repeated) {
        return schema.declare(number, kind, repeated);
    }

    public boolean put(int f, int v) {
        return schema.has(f) && schema.allows(f, v) && draftValue.store(f, v);
    }

    public void reset() {
        draftValue.clear();
    }

    public int call(int procedure) {
        return client.place(procedure, draftValue);
    }

    public int tick() {
        return client.growOlder();
    }

    public int deliver(int k) {
        if (!network.has(k)) {
            return NONE;
        }
        boolean toServer = network.isForServer(k);
        Bytes message = network.take(k);
        return toServer ? server.receive(message) : client.receive(message);
    }

    public boolean lose(int k) {
        if (!network.has(k)) {
            return false;
        }
        network.take(k);
        return true;
    }

    public boolean copy(int k) {
        if (!network.has(k) || network.isFull()) {
            return false;
        }
        network.send(network.message(k), network.isForServer(k));
        return true;
    }

    public boolean add(int b) {
        return b >= 0 && b <= 255 && draftBytes.append(b);
    }

    public int hand(boolean server) {
        int said = server ? this.server.receive(draftBytes) : client.receive(draftBytes);
        draftBytes.clear();
        return said;
    }

    public int total() {
        return server.total;
    }

    public int runs() {
        return server.runs;
    }

    public int status(int xid) {
        return client.statusOf(xid);
    }

    public int result(int xid) {
        return client.resultOf(xid);
    }

    public int flight() {
        return network.count;
    }

    public int size(int k) {
        return network.has(k) ? network.message(k).length : NONE;
    }

    public int byteAt(int k, int i) {
        return network.has(k) ? network.message(k).at(i) : NONE;
    }

    /** A row of bytes that grows at its end, up to the capacity it was made with. */
    private static final class Bytes {
        private final int[] cells;
        private int length;

        Bytes(int capacity) {
            cells = new int[capacity];
            length = 0;
        }

        void clear() {
            length = 0;
        }

        boolean append(int b) {
            if (length >= cells.length) {
                return false;
            }
            cells[length] = b;
            length++;
            return true;
        }

        void appendWord(int word) {
            append((word >>> 24) & 255);
            append((word >>> 16) & 255);
            append((word >>> 8) & 255);
            append(word & 255);
        }

        void appendPart(Bytes from, int start, int count) {
            int end = Math.min(start + count, from.length);
            for (int i = Math.max(start, 0); i < end; i++) {
                append(from.cells[i]);
            }
        }

        void become(Bytes other) {
            length = Math.min(other.length, cells.length);
            System.arraycopy(other.cells, 0, cells, 0, length);
        }

        int at(int i) {
            return i >= 0 && i < length ? cells[i] : NONE;
        }

        /** The word that begins at byte i; 0 where there is none, so that no caller can fall off. */
        int wordAt(int i) {
            if (i < 0 || i > length - 4) {
                return 0;
            }
            return (cells[i] << 24) | (cells[i + 1] << 16) | (cells[i + 2] << 8) | cells[i + 3];
        }

        /** The word whose bytes are those of this one in the other order. */
        static int swapped(int word) {
            return (word << 24) | ((word & 0xFF00) << 8) | ((word >>> 8) & 0xFF00) | (word >>> 24);
        }

        /** Row k goes behind all others and can be filled anew; the others keep their order. */
        static void moveToEnd(Bytes[] rows, int k) {
            if (k < 0 || k >= rows.length) {
                return;
            }
            Bytes moved = rows[k];
            for (int i = k; i < rows.length - 1; i++) {
                rows[i] = rows[i + 1];
            }
            rows[rows.length - 1] = moved;
        }
    }

    /** How a record is cut into the fragments of a message, and put together again. */
    private static final class Fragments {
        private static final int PIECE = 16;
        private static final int LAST = 1 << 31;

        private Fragments() {
        }

        static void wrap(Bytes record, Bytes message) {
            message.clear();
            for (int start = 0; start < record.length; start += PIECE) {
                int count = Math.min(PIECE, record.length - start);
                boolean last = start + count == record.length;
                message.appendWord(last ? count + LAST : count);
                message.appendPart(record, start, count);
            }
        }

        /** False when the message is broken; the record is of no use then. */
        static boolean unwrap(Bytes message, Bytes record) {
            record.clear();
            int at = 0;
            // Every fragment has a word at least, so there are fewer of them than bytes.
            for (int n = 0; n < message.length && at <= message.length - 4; n++) {
                int head = message.wordAt(at);
                int count = head & Integer.MAX_VALUE;
                at += 4;
                if (count > message.length - at) {
                    return false;
                }
                record.appendPart(message, at, count);
                at += count;
                if (head < 0) {
                    return at == message.length;
                }
            }
            return false;
        }
    }

    /** Takes bytes off a row one after the other; what isn't there makes it faulty and answers 0. */
    private static final class Reader {
        private static final int LONGEST_VARINT = 10;
        private final Bytes source;
        private int at;
        private boolean faulty;

        Reader(Bytes source) {
            this.source = source;
            at = 0;
            faulty = false;
        }

        void startAt(int i) {
            at = Math.max(i, 0);
            faulty = false;
        }

        int left() {
            return source.length - at;
        }

        int takeWord() {
            if (source.length - at < 4) {
                faulty = true;
                return 0;
            }
            int word = 0;
            for (int i = 0; i < 4; i++) {
                word = (word << 8) | source.cells[at];
                at++;
            }
            return word;
        }

        long takeVarint() {
            long number = 0;
            for (int i = 0; i < LONGEST_VARINT && at < source.length; i++) {
                int b = source.cells[at];
                at++;
                number |= (long) (b & 127) << (7 * i);
                if (b < 128) {
                    return number;
                }
            }
            faulty = true;
            return 0;
        }

        void skip(long count) {
            // A count that is negative here is one beyond 2^63 without sign.
            if (count < 0 || count > source.length - at) {
                faulty = true;
            } else {
                at += (int) count;
            }
        }
    }

    /** The fields that were declared, by index. */
    private static final class Schema {
        static final int MOST_FIELDS = 4;
        static final int COUNT = 0;
        static final int SIGNED = 1;
        static final int FIXED = 2;
        static final int FLAG = 3;
        static final int WIRE_VARINT = 0;
        static final int WIRE_FIXED = 5;
        private static final int HIGHEST_NUMBER = 30;

        private final int[] numbers = new int[MOST_FIELDS];
        private final int[] kinds = new int[MOST_FIELDS];
        private final int[] keys = new int[MOST_FIELDS];
        private final boolean[] repeats = new boolean[MOST_FIELDS];
        private int count = 0;

        int declare(int number, int kind, boolean repeated) {
            if (number < 1 || number > HIGHEST_NUMBER || kind < COUNT || kind > FLAG) {
                return BAD;
            }
            if (indexOf(number) != NONE) {
                return BAD;
            }
            if (count >= MOST_FIELDS) {
                return FULL;
            }
            numbers[count] = number;
            kinds[count] = kind;
            keys[count] = 8 * number + (kind == FIXED ? WIRE_FIXED : WIRE_VARINT);
            repeats[count] = repeated;
            count++;
            return count - 1;
        }

        int indexOf(int number) {
            for (int f = 0; f < count; f++) {
                if (numbers[f] == number) {
                    return f;
                }
            }
            return NONE;
        }

        boolean has(int f) {
            return f >= 0 && f < count;
        }

        int kindOf(int f) {
            return has(f) ? kinds[f] : COUNT;
        }

        boolean isRepeated(int f) {
            return has(f) && repeats[f];
        }

        /** What stands before each int of the field in format 0. */
        int keyOf(int f) {
            return has(f) ? keys[f] : 0;
        }

        boolean allows(int f, int v) {
            return kindOf(f) != FLAG || v == 0 || v == 1;
        }
    }

    /** The ints of every field; a field that isn't declared yet has the cells of an untouched one. */
    private static final class Value {
        static final int MOST_INTS = 4;
        private final Schema schema;
        private final int[] ints = new int[Schema.MOST_FIELDS * MOST_INTS];
        private final int[] listed = new int[Schema.MOST_FIELDS];

        Value(Schema schema) {
            this.schema = schema;
        }

        void clear() {
            for (int i = 0; i < ints.length; i++) {
                ints[i] = 0;
            }
            for (int f = 0; f < listed.length; f++) {
                listed[f] = 0;
            }
        }

        /** Replaces a single field's int, or lengthens a list; false when the list is full. */
        boolean store(int f, int v) {
            if (!schema.has(f)) {
                return false;
            }
            if (!schema.repeats[f]) {
                ints[f * MOST_INTS] = v;
                return true;
            }
            if (listed[f] >= MOST_INTS) {
                return false;
            }
            ints[f * MOST_INTS + listed[f]] = v;
            listed[f]++;
            return true;
        }

        int countOf(int f) {
            if (!schema.has(f)) {
                return 0;
            }
            return schema.repeats[f] ? listed[f] : 1;
        }

        int intOf(int f, int i) {
            return i >= 0 && i < countOf(f) ? ints[f * MOST_INTS + i] : 0;
        }

        int digest() {
            int d = 0;
            for (int f = 0; f < schema.count; f++) {
                int n = countOf(f);
                if (schema.isRepeated(f)) {
                    d = 31 * d + n;
                }
                for (int i = 0; i < n; i++) {
                    d = 31 * d + intOf(f, i);
                }
            }
            return d;
        }
    }

    /** How a value is written as the body of a record, and read from one. */
    private abstract static class Format {
        final Schema schema;

        Format(Schema schema) {
            this.schema = schema;
        }

        abstract void write(Value from, Bytes to);

        /** False when the body is faulty; the value is of no use then. */
        abstract boolean read(Reader body, Value to);
    }

    /** Format 0: every int behind a key that names its field. */
    private static final class TaggedFormat extends Format {
        private static final long LOWEST_KEY = 8;
        private static final long HIGHEST_KEY = 0xFFFFFFFFL;
        private static final long UNSIGNED = 0xFFFFFFFFL;
        private static final int WIRE_EIGHT = 1;
        private static final int WIRE_COUNTED = 2;

        TaggedFormat(Schema schema) {
            super(schema);
        }

        void write(Value from, Bytes to) {
            for (int f = 0; f < schema.count; f++) {
                int n = from.countOf(f);
                for (int i = 0; i < n; i++) {
                    int v = from.intOf(f, i);
                    if (v != 0 || schema.isRepeated(f)) {
                        writeVarint(schema.keyOf(f), to);
                        writeInt(schema.kindOf(f), v, to);
                    }
                }
            }
        }

        private static void writeInt(int kind, int v, Bytes to) {
            switch (kind) {
                case Schema.FIXED:
                    to.appendWord(Bytes.swapped(v));
                    break;
                case Schema.SIGNED:
                    writeVarint(v >= 0 ? 2L * v : -2L * v - 1, to);
                    break;
                default:
                    writeVarint(v & UNSIGNED, to);
                    break;
            }
        }

        private static void writeVarint(long number, Bytes to) {
            long rest = number;
            for (int i = 1; i < Reader.LONGEST_VARINT && (rest >>> 7) != 0; i++) {
                to.append((int) (rest & 127) + 128);
                rest = rest >>> 7;
            }
            to.append((int) rest);
        }

        boolean read(Reader body, Value to) {
            to.clear();
            int most = body.left();
            // Every entry takes a byte at least.
            for (int n = 0; n < most && body.left() > 0; n++) {
                if (!readEntry(body, to)) {
                    return false;
                }
            }
            return body.left() == 0;
        }

        private boolean readEntry(Reader body, Value to) {
            long key = body.takeVarint();
            if (body.faulty || key < LOWEST_KEY || key > HIGHEST_KEY) {
                return false;
            }
            long payload = takePayload(body, (int) (key & 7));
            if (body.faulty) {
                return false;
            }
            int f = schema.indexOf((int) (key >>> 3));
            if (f == NONE || schema.keyOf(f) != key) {
                return true;
            }
            return to.store(f, intOfPayload(schema.kindOf(f), payload));
        }

        private static long takePayload(Reader body, int wire) {
            switch (wire) {
                case Schema.WIRE_VARINT:
                    return body.takeVarint();
                case Schema.WIRE_FIXED:
                    return Bytes.swapped(body.takeWord());
                case WIRE_EIGHT:
                    body.skip(8);
                    return 0;
                case WIRE_COUNTED:
                    body.skip(body.takeVarint());
                    return 0;
                default:
                    body.faulty = true;
                    return 0;
            }
        }

        private static int intOfPayload(int kind, long payload) {
            int low = (int) payload;
            switch (kind) {
                case Schema.SIGNED:
                    int half = low >>> 1;
                    return (low & 1) == 0 ? half : -half - 1;
                case Schema.FLAG:
                    return payload == 0 ? 0 : 1;
                default:
                    return low;
            }
        }
    }

    /** Format 1: every int as a word, in the order of the fields. */
    private static final class WordFormat extends Format {
        WordFormat(Schema schema) {
            super(schema);
        }

        void write(Value from, Bytes to) {
            for (int f = 0; f < schema.count; f++) {
                int n = from.countOf(f);
                if (schema.isRepeated(f)) {
                    to.appendWord(n);
                }
                for (int i = 0; i < n; i++) {
                    to.appendWord(from.intOf(f, i));
                }
            }
        }

        boolean read(Reader body, Value to) {
            to.clear();
            for (int f = 0; f < schema.count; f++) {
                int n = schema.isRepeated(f) ? body.takeWord() : 1;
                if (body.faulty || n < 0 || n > Value.MOST_INTS) {
                    return false;
                }
                for (int i = 0; i < n; i++) {
                    int v = body.takeWord();
                    if (body.faulty || !schema.allows(f, v) || !to.store(f, v)) {
                        return false;
                    }
                }
            }
            return body.left() == 0;
        }
    }

    /** The line of messages that are under way. */
    private static final class Network {
        private static final int MOST_MESSAGES = 16;
        // One row more than messages: the one taken off last stays whole while it is answered.
        private final Bytes[] rows = new Bytes[MOST_MESSAGES + 1];
        private final boolean[] forServer = new boolean[MOST_MESSAGES];
        private int count = 0;

        Network() {
            for (int i = 0; i < rows.length; i++) {
                rows[i] = new Bytes(LONGEST_SENT);
            }
        }

        boolean has(int k) {
            return k >= 0 && k < count;
        }

        boolean isFull() {
            return count >= MOST_MESSAGES;
        }

        /** Message k, where there is one. */
        Bytes message(int k) {
            return rows[has(k) ? k : MOST_MESSAGES];
        }

        boolean isForServer(int k) {
            return has(k) && forServer[k];
        }

        void send(Bytes message, boolean toServer) {
            if (isFull()) {
                return;
            }
            rows[count].become(message);
            forServer[count] = toServer;
            count++;
        }

        /** Takes message k off, where there is one; its bytes stand until the next one is taken. */
        Bytes take(int k) {
            if (has(k)) {
                Bytes.moveToEnd(rows, k);
                count--;
                for (int i = k; i < count; i++) {
                    forServer[i] = forServer[i + 1];
                }
            }
            return rows[MOST_MESSAGES];
        }
    }

    /** Runs procedures, and remembers the newest replies so as not to run a call again. */
    private static final class Server {
        private static final int MOST_REMEMBERED = 4;
        private static final int HIGHEST_PROCEDURE = 3;
        private final Network network;
        private final Format format;
        private final Value value;
        private final Bytes record = new Bytes(DRAFT_BYTES);
        private final Reader reader = new Reader(record);
        private final int[] xids = new int[MOST_REMEMBERED];
        private final Bytes[] replies = new Bytes[MOST_REMEMBERED];
        private int remembered = 0;
        private int oldest = 0;
        private int total = 0;
        private int runs = 0;

        Server(Network network, Format format, Value value) {
            this.network = network;
            this.format = format;
            this.value = value;
            for (int i = 0; i < replies.length; i++) {
                replies[i] = new Bytes(LONGEST_REPLY);
            }
        }

        int receive(Bytes message) {
            if (!Fragments.unwrap(message, record) || record.length < HEADER_BYTES) {
                return BROKEN;
            }
            if (record.wordAt(4) != CALL_MARK) {
                return WRONG;
            }
            int xid = record.wordAt(0);
            for (int i = 0; i < remembered; i++) {
                if (xids[i] == xid) {
                    network.send(replies[i], false);
                    return AGAIN;
                }
            }
            return answer(xid, record.wordAt(8));
        }

        private int answer(int xid, int procedure) {
            if (procedure < 0 || procedure > HIGHEST_PROCEDURE) {
                reply(xid, STATUS_NOPROCEDURE, 0);
                return NOPROCEDURE;
            }
            reader.startAt(HEADER_BYTES);
            if (!format.read(reader, value)) {
                reply(xid, STATUS_GARBAGE, 0);
                return GARBAGE;
            }
            reply(xid, STATUS_RAN, run(procedure, value.digest()));
            return RAN;
        }

        private int run(int procedure, int digest) {
            runs++;
            int old = total;
            switch (procedure) {
                case 1:
                    total += digest;
                    return total;
                case 2:
                    total = digest;
                    return old;
                case 3:
                    return total;
                default:
                    return 0;
            }
        }

        private void reply(int xid, int status, int result) {
            // The call was read to its end, so its row is free for the reply.
            record.clear();
            record.appendWord(xid);
            record.appendWord(REPLY_MARK);
            record.appendWord(status);
            if (status == STATUS_RAN) {
                record.appendWord(result);
            }
            int slot = slotForNew();
            xids[slot] = xid;
            Fragments.wrap(record, replies[slot]);
            network.send(replies[slot], false);
        }

        private int slotForNew() {
            if (remembered < MOST_REMEMBERED) {
                remembered++;
                return remembered - 1;
            }
            int slot = oldest;
            oldest = (oldest + 1) % MOST_REMEMBERED;
            return slot;
        }
    }

    /** Makes calls, and sends the pending ones again until they are answered. */
    private static final class Client {
        private static final int MOST_CALLS = 100;
        private static final int MOST_PENDING = 8;
        private static final int HIGHEST_PROCEDURE = 255;
        private static final int PATIENCE = 3;
        private final Network network;
        private final Format format;
        private final Bytes record = new Bytes(DRAFT_BYTES);
        private final int[] statuses = new int[MOST_CALLS];
        private final int[] results = new int[MOST_CALLS];
        private int made = 0;
        // The pending calls in the order of their xids: new ones come to the end.
        private final int[] xids = new int[MOST_PENDING];
        private final int[] ages = new int[MOST_PENDING];
        private final Bytes[] messages = new Bytes[MOST_PENDING];
        private int pending = 0;

        Client(Network network, Format format) {
            this.network = network;
            this.format = format;
            for (int i = 0; i < messages.length; i++) {
                messages[i] = new Bytes(LONGEST_SENT);
            }
        }

        int place(int procedure, Value value) {
            if (procedure < 0 || procedure > HIGHEST_PROCEDURE) {
                return BAD;
            }
            if (pending >= MOST_PENDING || made >= MOST_CALLS) {
                return FULL;
            }
            int xid = made;
            record.clear();
            record.appendWord(xid);
            record.appendWord(CALL_MARK);
            record.appendWord(procedure);
            format.write(value, record);
            Fragments.wrap(record, messages[pending]);
            network.send(messages[pending], true);
            statuses[xid] = PENDING;
            xids[pending] = xid;
            ages[pending] = 0;
            made++;
            pending++;
            return xid;
        }

        int growOlder() {
            int sent = 0;
            for (int p = 0; p < pending; p++) {
                ages[p]++;
                if (ages[p] >= PATIENCE) {
                    network.send(messages[p], true);
                    ages[p] = 0;
                    sent++;
                }
            }
            return sent;
        }

        int receive(Bytes message) {
            if (!Fragments.unwrap(message, record) || record.length < HEADER_BYTES) {
                return BROKEN;
            }
            if (record.wordAt(4) != REPLY_MARK) {
                return WRONG;
            }
            int status = record.wordAt(8);
            if (status < STATUS_RAN || status > STATUS_GARBAGE) {
                return BROKEN;
            }
            if (record.length != (status == STATUS_RAN ? HEADER_BYTES + 4 : HEADER_BYTES)) {
                return BROKEN;
            }
            int p = pendingPlaceOf(record.wordAt(0));
            if (p == NONE) {
                return STALE;
            }
            settle(p, status, status == STATUS_RAN ? record.wordAt(HEADER_BYTES) : 0);
            return ACCEPTED;
        }

        private int pendingPlaceOf(int xid) {
            for (int p = 0; p < pending; p++) {
                if (xids[p] == xid) {
                    return p;
                }
            }
            return NONE;
        }

        private void settle(int p, int status, int result) {
            int xid = xids[p];
            statuses[xid] = status;
            results[xid] = result;
            Bytes.moveToEnd(messages, p);
            pending--;
            for (int i = p; i < pending; i++) {
                xids[i] = xids[i + 1];
                ages[i] = ages[i + 1];
            }
        }

        int statusOf(int xid) {
            return xid >= 0 && xid < made ? statuses[xid] : NONE;
        }

        int resultOf(int xid) {
            return xid >= 0 && xid < made ? results[xid] : 0;
        }
    }
}
