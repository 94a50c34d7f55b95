import java.math.BigInteger;
import java.util.ArrayList;
import java.util.LinkedHashMap;
import java.util.List;
import java.util.Map;
import java.util.TreeMap;

/** The document told once more, with the library's lists and big numbers, thrift set aside. */
final class Model {
    private record Field(int number, int kind, boolean repeated) {
        int wire() {
            return kind == 2 ? 5 : 0;
        }
    }

    private record Message(List<Integer> bytes, boolean toServer) {
    }

    /** Told by the readers below where the document says faulty or broken. */
    private static final class Faulty extends Exception {
        private static final long serialVersionUID = 1L;
    }

    private static final BigInteger TWO32 = BigInteger.ONE.shiftLeft(32);
    private static final BigInteger TWO64 = BigInteger.ONE.shiftLeft(64);

    private final boolean words;
    private final List<Field> fields = new ArrayList<>();
    private final Map<Integer, List<Integer>> draft = new TreeMap<>();
    private final List<Integer> bytes = new ArrayList<>();
    private final List<Message> line = new ArrayList<>();
    private final LinkedHashMap<Integer, Message> remembered = new LinkedHashMap<>();
    private final List<Message> calls = new ArrayList<>();
    private final TreeMap<Integer, Integer> ages = new TreeMap<>();
    private final Map<Integer, int[]> accepted = new TreeMap<>();
    private int total = 0;
    private int runs = 0;

    Model(int format) {
        words = format % 2 != 0;
    }

    int field(int number, int kind, boolean repeated) {
        if (number < 1 || number > 30 || kind < 0 || kind > 3
                || fields.stream().anyMatch(f -> f.number == number)) {
            return -4;
        }
        if (fields.size() == 4) {
            return -5;
        }
        fields.add(new Field(number, kind, repeated));
        return fields.size() - 1;
    }

    boolean put(int f, int v) {
        if (f < 0 || f >= fields.size()) {
            return false;
        }
        Field field = fields.get(f);
        if (field.kind == 3 && v != 0 && v != 1) {
            return false;
        }
        return give(draft, f, v);
    }

    private boolean give(Map<Integer, List<Integer>> value, int f, int v) {
        List<Integer> ints = value.computeIfAbsent(f, any -> new ArrayList<>());
        if (!fields.get(f).repeated) {
            ints.clear();
        }
        if (ints.size() == 4) {
            return false;
        }
        ints.add(v);
        return true;
    }

    private List<Integer> ints(Map<Integer, List<Integer>> value, int f) {
        List<Integer> none = fields.get(f).repeated ? List.of() : List.of(0);
        return value.getOrDefault(f, none);
    }

    void reset() {
        draft.clear();
    }

    int call(int procedure) {
        if (procedure < 0 || procedure > 255) {
            return -4;
        }
        if (ages.size() == 8 || calls.size() == 100) {
            return -5;
        }
        int xid = calls.size();
        List<Integer> record = new ArrayList<>();
        word(record, xid);
        word(record, 0);
        word(record, procedure);
        write(record);
        Message message = new Message(fragments(record), true);
        calls.add(message);
        ages.put(xid, 0);
        send(message);
        return xid;
    }

    int tick() {
        int sent = 0;
        for (int xid : new ArrayList<>(ages.keySet())) {
            int age = ages.get(xid) + 1;
            if (age == 3) {
                send(calls.get(xid));
                sent++;
            }
            ages.put(xid, age % 3);
        }
        return sent;
    }

    int deliver(int k) {
        if (k < 0 || k >= line.size()) {
            return -1;
        }
        Message message = line.remove(k);
        return message.toServer ? server(message.bytes) : client(message.bytes);
    }

    boolean lose(int k) {
        if (k < 0 || k >= line.size()) {
            return false;
        }
        line.remove(k);
        return true;
    }

    boolean copy(int k) {
        if (k < 0 || k >= line.size() || line.size() == 16) {
            return false;
        }
        return line.add(line.get(k));
    }

    boolean add(int b) {
        return b >= 0 && b <= 255 && bytes.size() < 200 && bytes.add(b);
    }

    int hand(boolean server) {
        List<Integer> message = new ArrayList<>(bytes);
        bytes.clear();
        return server ? server(message) : client(message);
    }

    int total() {
        return total;
    }

    int runs() {
        return runs;
    }

    int status(int xid) {
        if (xid < 0 || xid >= calls.size()) {
            return -1;
        }
        return accepted.containsKey(xid) ? accepted.get(xid)[0] : 3;
    }

    int result(int xid) {
        return accepted.containsKey(xid) ? accepted.get(xid)[1] : 0;
    }

    int flight() {
        return line.size();
    }

    int size(int k) {
        return k < 0 || k >= line.size() ? -1 : line.get(k).bytes.size();
    }

    int byteAt(int k, int i) {
        return i < 0 || i >= size(k) ? -1 : line.get(k).bytes.get(i);
    }

    private void send(Message message) {
        if (line.size() < 16) {
            line.add(message);
        }
    }

    private static void word(List<Integer> to, int w) {
        for (int shift = 24; shift >= 0; shift -= 8) {
            to.add((w >> shift) & 255);
        }
    }

    private static int wordAt(List<Integer> from, int at) throws Faulty {
        if (at + 4 > from.size()) {
            throw new Faulty();
        }
        int w = 0;
        for (int b : from.subList(at, at + 4)) {
            w = w * 256 + b;
        }
        return w;
    }

    private static List<Integer> fragments(List<Integer> record) {
        List<Integer> message = new ArrayList<>();
        for (int from = 0; from < record.size(); from += 16) {
            boolean last = record.size() - from <= 16;
            List<Integer> piece = record.subList(from, last ? record.size() : from + 16);
            word(message, last ? Integer.MIN_VALUE + piece.size() : piece.size());
            message.addAll(piece);
        }
        return message;
    }

    private static List<Integer> record(List<Integer> message) throws Faulty {
        List<Integer> record = new ArrayList<>();
        int at = 0;
        boolean last = false;
        while (!last) {
            int head = wordAt(message, at);
            last = head < 0;
            long count = last ? (long) head + (1L << 31) : head;
            at += 4;
            if (at + count > message.size()) {
                throw new Faulty();
            }
            record.addAll(message.subList(at, at + (int) count));
            at += (int) count;
        }
        if (at != message.size() || record.size() < 12) {
            throw new Faulty();
        }
        return record;
    }

    private static void varint(List<Integer> to, BigInteger number) {
        BigInteger[] parts = number.divideAndRemainder(BigInteger.valueOf(128));
        boolean last = parts[0].signum() == 0;
        to.add(parts[1].intValue() + (last ? 0 : 128));
        if (!last) {
            varint(to, parts[0]);
        }
    }

    private void write(List<Integer> to) {
        for (int f = 0; f < fields.size(); f++) {
            Field field = fields.get(f);
            List<Integer> ints = ints(draft, f);
            if (words && field.repeated) {
                word(to, ints.size());
            }
            for (int v : ints) {
                if (words) {
                    word(to, v);
                } else if (field.repeated || v != 0) {
                    varint(to, BigInteger.valueOf(8L * field.number + field.wire()));
                    writeTagged(to, field.kind, v);
                }
            }
        }
    }

    private static void writeTagged(List<Integer> to, int kind, int v) {
        BigInteger big = BigInteger.valueOf(v);
        if (kind == 2) {
            for (int shift = 0; shift < 32; shift += 8) {
                to.add((v >> shift) & 255);
            }
        } else if (kind == 1) {
            BigInteger twice = big.multiply(BigInteger.TWO);
            varint(to, v >= 0 ? twice : twice.negate().subtract(BigInteger.ONE));
        } else {
            varint(to, big.mod(TWO32));
        }
    }

    private static List<Integer> taken(List<Integer> from, BigInteger count) throws Faulty {
        if (count.compareTo(BigInteger.valueOf(from.size())) > 0) {
            throw new Faulty();
        }
        List<Integer> head = from.subList(0, count.intValueExact());
        List<Integer> all = new ArrayList<>(head);
        head.clear();
        return all;
    }

    private static BigInteger varint(List<Integer> from) throws Faulty {
        for (int n = 1; n <= 10 && n <= from.size(); n++) {
            if (from.get(n - 1) < 128) {
                BigInteger number = BigInteger.ZERO;
                List<Integer> all = taken(from, BigInteger.valueOf(n));
                for (int i = 0; i < n; i++) {
                    number = number.add(BigInteger.valueOf(all.get(i) % 128).shiftLeft(7 * i));
                }
                return number.mod(TWO64);
            }
        }
        throw new Faulty();
    }

    private Map<Integer, List<Integer>> readWords(List<Integer> body) throws Faulty {
        Map<Integer, List<Integer>> value = new TreeMap<>();
        int at = 0;
        for (int f = 0; f < fields.size(); f++) {
            int count = 1;
            if (fields.get(f).repeated) {
                count = wordAt(body, at);
                at += 4;
            }
            if (count < 0 || count > 4) {
                throw new Faulty();
            }
            for (int i = 0; i < count; i++) {
                int v = wordAt(body, at);
                at += 4;
                if (fields.get(f).kind == 3 && v != 0 && v != 1) {
                    throw new Faulty();
                }
                give(value, f, v);
            }
        }
        if (at != body.size()) {
            throw new Faulty();
        }
        return value;
    }

    private Map<Integer, List<Integer>> readTagged(List<Integer> body) throws Faulty {
        Map<Integer, List<Integer>> value = new TreeMap<>();
        while (!body.isEmpty()) {
            BigInteger key = varint(body);
            if (key.compareTo(BigInteger.valueOf(8)) < 0 || key.compareTo(TWO32) >= 0) {
                throw new Faulty();
            }
            int wire = key.mod(BigInteger.valueOf(8)).intValue();
            BigInteger number = BigInteger.ZERO;
            if (wire == 0) {
                number = varint(body);
            } else if (wire == 5) {
                List<Integer> four = taken(body, BigInteger.valueOf(4));
                for (int i = 3; i >= 0; i--) {
                    number = number.shiftLeft(8).add(BigInteger.valueOf(four.get(i)));
                }
            } else if (wire == 1) {
                taken(body, BigInteger.valueOf(8));
            } else if (wire == 2) {
                taken(body, varint(body));
            } else {
                throw new Faulty();
            }
            long named = key.longValue() / 8;
            for (int f = 0; f < fields.size(); f++) {
                Field field = fields.get(f);
                if (field.number == named && field.wire() == wire
                        && !give(value, f, kindOf(field.kind, number))) {
                    throw new Faulty();
                }
            }
        }
        return value;
    }

    private static int kindOf(int kind, BigInteger number) {
        if (kind == 3) {
            return number.signum();
        }
        BigInteger low = number.mod(TWO32);
        if (kind != 1) {
            return low.intValue();
        }
        BigInteger half = low.divide(BigInteger.TWO);
        return (low.testBit(0) ? half.negate().subtract(BigInteger.ONE) : half).intValue();
    }

    private int digest(Map<Integer, List<Integer>> value) {
        int d = 0;
        for (int f = 0; f < fields.size(); f++) {
            List<Integer> ints = ints(value, f);
            if (fields.get(f).repeated) {
                d = 31 * d + ints.size();
            }
            for (int v : ints) {
                d = 31 * d + v;
            }
        }
        return d;
    }

    private int server(List<Integer> message) {
        List<Integer> record;
        int xid;
        int mark;
        int procedure;
        try {
            record = record(message);
            xid = wordAt(record, 0);
            mark = wordAt(record, 4);
            procedure = wordAt(record, 8);
        } catch (Faulty broken) {
            return -2;
        }
        if (mark != 0) {
            return -3;
        }
        if (remembered.containsKey(xid)) {
            send(remembered.get(xid));
            return 1;
        }
        if (procedure < 0 || procedure > 3) {
            reply(xid, 1, 0);
            return 2;
        }
        int d;
        try {
            List<Integer> body = new ArrayList<>(record.subList(12, record.size()));
            d = digest(words ? readWords(body) : readTagged(body));
        } catch (Faulty faulty) {
            reply(xid, 2, 0);
            return 3;
        }
        runs++;
        int old = total;
        total = procedure == 1 ? total + d : procedure == 2 ? d : total;
        reply(xid, 0, procedure == 0 ? 0 : procedure == 2 ? old : total);
        return 0;
    }

    private void reply(int xid, int status, int result) {
        List<Integer> record = new ArrayList<>();
        word(record, xid);
        word(record, 1);
        word(record, status);
        if (status == 0) {
            word(record, result);
        }
        if (remembered.size() == 4) {
            remembered.remove(remembered.keySet().iterator().next());
        }
        remembered.put(xid, new Message(fragments(record), false));
        send(remembered.get(xid));
    }

    private int client(List<Integer> message) {
        try {
            List<Integer> record = record(message);
            if (wordAt(record, 4) != 1) {
                return -3;
            }
            int status = wordAt(record, 8);
            if (status < 0 || status > 2 || record.size() != (status == 0 ? 16 : 12)) {
                return -2;
            }
            int xid = wordAt(record, 0);
            if (ages.remove(xid) == null) {
                return 5;
            }
            accepted.put(xid, new int[] {status, status == 0 ? wordAt(record, 12) : 0});
            return 4;
        } catch (Faulty broken) {
            return -2;
        }
    }
}
