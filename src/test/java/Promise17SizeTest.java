/** Promise 17: the bytes of a message, the words before its fragments counted. */
public final class Promise17SizeTest {
    public static void main(String[] args) {
        Due due = new Due();
        OnceWire x = new OnceWire(1);
        // Bodies of 0 to 5 words: a record of exactly sixteen bytes is one fragment.
        int[] sizes = {16, 20, 28, 32, 36, 40};
        for (int n = 0; n < 4; n++) {
            x.call(0);
            due.same("words " + n, x.size(n), sizes[n]);
            x.field(n + 1, 0, n == 3);
        }
        x.call(0);
        due.same("three single ones and a list", x.size(4), sizes[4]);
        x.put(3, 1);
        x.call(0);
        due.same("with an int", x.size(5), sizes[5]);
        due.same("behind the last", x.size(6), OnceWire.NONE);
        int[] none = {-1, 16, Integer.MIN_VALUE, Integer.MAX_VALUE};
        for (int k : none) {
            due.same("size " + k, x.size(k), OnceWire.NONE);
        }
        x.deliver(5);
        due.same("reply with a result", x.size(5), 20);
        x.deliver(0);
        due.same("reply without one", x.size(5), 16);
        due.same("the others moved up", x.size(0), sizes[1]);
        due.end();
    }
}
