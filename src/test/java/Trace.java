import java.util.ArrayList;
import java.util.List;
import java.util.function.BiConsumer;
import java.util.function.Consumer;
import java.util.function.Supplier;

/**
 * Shows whether a call changed anything that a later call would show: objects of the same past, with
 * and without the call, are asked all there is to ask, each question of new objects.
 */
final class Trace {
    private record Question(String name, BiConsumer<OnceWire, List<Integer>> asked) {
    }

    private static final int[] XIDS = {-1, 0, 1, 2, 3, 4, 7, 8, 96, 97, 98, 99, 100, 500, 600, 700};
    private static final List<Question> QUESTIONS = questions();

    private final Supplier<OnceWire> past;

    Trace(Supplier<OnceWire> past) {
        this.past = past;
    }

    /** Due: the call leaves everything as it was. */
    void none(Due due, String what, Consumer<OnceWire> call) {
        alike(due, what, call, x -> { });
    }

    /** Due: it is all one whether the one or the other happened. */
    void alike(Due due, String what, Consumer<OnceWire> call, Consumer<OnceWire> other) {
        due.noTrace(what, difference(call, other));
    }

    /** The first question that is answered otherwise after the one than after the other. */
    String difference(Consumer<OnceWire> call, Consumer<OnceWire> other) {
        for (Question question : QUESTIONS) {
            if (!answers(question, call).equals(answers(question, other))) {
                return question.name;
            }
        }
        return "";
    }

    private List<Integer> answers(Question question, Consumer<OnceWire> call) {
        OnceWire x = past.get();
        call.accept(x);
        List<Integer> said = new ArrayList<>();
        question.asked.accept(x, said);
        return said;
    }

    private static List<Question> questions() {
        List<Question> all = new ArrayList<>();
        all.add(new Question("total, runs, flight, size", Trace::sizes));
        all.add(new Question("status", Trace::statuses));
        all.add(new Question("result", Trace::results));
        for (int k = 0; k < 16; k++) {
            int place = k;
            all.add(new Question("bytes of message " + k, (x, said) -> message(x, place, said)));
            all.add(new Question("deliver " + k, (x, said) -> delivered(x, place, said)));
        }
        all.add(new Question("tick", Trace::ages));
        for (int p = 0; p < 8; p++) {
            int place = p;
            all.add(new Question("what tick sends", (x, said) -> sentAgain(x, place, said)));
        }
        all.add(new Question("call's bytes", Trace::draftValue));
        all.add(new Question("field", Trace::schema));
        all.add(new Question("put, then call's bytes", Trace::kinds));
        all.add(new Question("add", Trace::draftBytesLeft));
        all.add(new Question("hand to the server", (x, said) -> handed(x, true, said)));
        all.add(new Question("hand to the client", (x, said) -> handed(x, false, said)));
        all.add(new Question("the draft bytes made whole", Trace::draftBytes));
        for (int xid : XIDS) {
            for (int newer = 0; newer < 5; newer++) {
                int others = newer;
                all.add(new Question("reply to " + xid + " after " + newer + " more",
                        (x, said) -> remembered(x, xid, others, said)));
            }
        }
        return all;
    }

    private static void say(List<Integer> said, boolean answer) {
        said.add(answer ? 1 : 0);
    }

    private static void sizes(OnceWire x, List<Integer> said) {
        said.add(x.total());
        said.add(x.runs());
        said.add(x.flight());
        for (int k = -1; k <= 16; k++) {
            said.add(x.size(k));
        }
    }

    private static void statuses(OnceWire x, List<Integer> said) {
        for (int xid = -1; xid <= 100; xid++) {
            said.add(x.status(xid));
        }
    }

    private static void results(OnceWire x, List<Integer> said) {
        for (int xid = -1; xid <= 100; xid++) {
            said.add(x.result(xid));
        }
    }

    private static void message(OnceWire x, int k, List<Integer> said) {
        int size = x.size(k);
        said.add(size);
        for (int i = 0; i < size; i++) {
            said.add(x.byteAt(k, i));
        }
    }

    private static void delivered(OnceWire x, int k, List<Integer> said) {
        said.add(x.deliver(k));
        sizes(x, said);
        message(x, x.flight() - 1, said);
    }

    private static void loseAll(OnceWire x) {
        for (int k = x.flight(); k > 0; k--) {
            x.lose(0);
        }
    }

    private static void ages(OnceWire x, List<Integer> said) {
        loseAll(x);
        for (int n = 0; n < 4; n++) {
            said.add(x.tick());
            said.add(x.flight());
            for (int k = 0; k < x.flight(); k++) {
                said.add(x.byteAt(k, 7));
            }
        }
    }

    private static void sentAgain(OnceWire x, int place, List<Integer> said) {
        loseAll(x);
        for (int n = 0; n < 3; n++) {
            said.add(x.tick());
        }
        message(x, place, said);
    }

    /** Makes room for one message and, where eight calls are pending, for one call. */
    private static void makeRoom(OnceWire x, List<Integer> said) {
        x.lose(0);
        x.hand(false);
        for (int xid = 0; xid < 8; xid++) {
            if (x.status(xid) == OnceWire.PENDING) {
                said.add(Wire.handReply(x, xid, 1));
                break;
            }
        }
    }

    private static void draftValue(OnceWire x, List<Integer> said) {
        makeRoom(x, said);
        said.add(x.call(7));
        message(x, x.flight() - 1, said);
    }

    private static void schema(OnceWire x, List<Integer> said) {
        for (int number = 30; number > 0; number--) {
            said.add(x.field(number, 0, false));
        }
    }

    private static void kinds(OnceWire x, List<Integer> said) {
        x.reset();
        for (int f = -1; f < 5; f++) {
            say(said, x.put(f, 2));
            for (int i = 0; i < 5; i++) {
                say(said, x.put(f, 1));
            }
        }
        draftValue(x, said);
    }

    private static void draftBytesLeft(OnceWire x, List<Integer> said) {
        int taken = 0;
        while (taken <= 200 && x.add(0)) {
            taken++;
        }
        said.add(taken);
    }

    private static void handed(OnceWire x, boolean server, List<Integer> said) {
        said.add(x.hand(server));
        sizes(x, said);
        message(x, x.flight() - 1, said);
    }

    private static void draftBytes(OnceWire x, List<Integer> said) {
        for (int i = Pasts.DRAFT_ADDED; i < Pasts.DRAFT.length; i++) {
            say(said, x.add(Pasts.DRAFT[i]));
        }
        handed(x, true, said);
    }

    private static void remembered(OnceWire x, int xid, int newer, List<Integer> said) {
        x.hand(true);
        loseAll(x);
        for (int i = 0; i < newer; i++) {
            said.add(Wire.handCall(x, -100 - i, 9));
        }
        said.add(Wire.handCall(x, xid, 9));
        message(x, x.flight() - 1, said);
    }
}
