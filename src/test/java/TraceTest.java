import java.util.LinkedHashMap;
import java.util.Map;
import java.util.function.Consumer;

/** The helper Trace finds what every call that changes something has changed. */
public final class TraceTest {
    private static final Due DUE = new Due();

    public static void main(String[] args) {
        for (int format = 0; format < 2; format++) {
            int f = format;
            Trace busy = new Trace(() -> Pasts.busy(f));
            for (Map.Entry<String, Consumer<OnceWire>> change : changes().entrySet()) {
                DUE.no(change.getKey() + " leaves no trace",
                        busy.difference(change.getValue(), x -> { }).isEmpty());
            }
        }
        pasts();
        DUE.end();
    }

    private static Map<String, Consumer<OnceWire>> changes() {
        Map<String, Consumer<OnceWire>> all = new LinkedHashMap<>();
        all.put("field", x -> x.field(9, 0, false));
        all.put("put single", x -> x.put(0, 0));
        all.put("put to a list", x -> x.put(1, 0));
        all.put("put to a list of flags", x -> x.put(2, 0));
        all.put("reset", OnceWire::reset);
        all.put("call", x -> x.call(0));
        all.put("tick", OnceWire::tick);
        all.put("add", x -> x.add(0));
        all.put("hand to the server", x -> x.hand(true));
        all.put("hand to the client", x -> x.hand(false));
        for (int k = 0; k < Pasts.busy(0).flight(); k++) {
            int place = k;
            all.put("deliver " + k, x -> x.deliver(place));
            all.put("lose " + k, x -> x.lose(place));
            all.put("copy " + k, x -> x.copy(place));
        }
        return all;
    }

    /** The pasts are as full as their names say, so that the tests with them show something. */
    private static void pasts() {
        for (int format = 0; format < 2; format++) {
            OnceWire busy = Pasts.busy(format);
            DUE.same("busy: flight", busy.flight(), 5);
            DUE.same("busy: runs", busy.runs(), 1);
            DUE.same("busy: answered", busy.status(2), 1);
            DUE.same("busy: pending", busy.status(0), OnceWire.PENDING);
            DUE.same("busy: fourth field", busy.field(1, 0, false), 3);
            OnceWire crammed = Pasts.crammed(format);
            DUE.same("crammed: flight", crammed.flight(), 16);
            DUE.no("crammed: 201 bytes", crammed.add(0));
            DUE.same("crammed: ninth pending", crammed.call(0), OnceWire.FULL);
            DUE.same("crammed: fifth field", crammed.field(2, 0, false), OnceWire.FULL);
            OnceWire hundred = Pasts.hundred(format);
            DUE.same("hundred: the last", hundred.status(99), 1);
            DUE.same("hundred: one more", hundred.call(0), OnceWire.FULL);
            DUE.same("hundred: flight", hundred.flight(), 0);
        }
    }
}
