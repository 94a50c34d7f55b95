/** Promise 13: runs counts what ran, once as long as the server remembers the call. */
public final class Promise13RunsTest {
    public static void main(String[] args) {
        Due due = new Due();
        OnceWire x = new OnceWire(0);
        for (int procedure = 0; procedure < 4; procedure++) {
            due.same("run", Wire.handCall(x, procedure, procedure), OnceWire.RAN);
            due.same("runs", x.runs(), procedure + 1);
        }
        due.same("again", Wire.handCall(x, 0, 0), OnceWire.AGAIN);
        due.same("no procedure", Wire.handCall(x, 4, 4), OnceWire.NOPROCEDURE);
        due.same("garbage", Wire.handCall(x, 5, 0, 1), OnceWire.GARBAGE);
        due.same("wrong", Wire.hand(x, true, Wire.message(Wire.record(6, 1, 0))), OnceWire.WRONG);
        due.same("broken", x.hand(true), OnceWire.BROKEN);
        due.same("none of them ran", x.runs(), 4);
        due.same("forgotten, so run again", Wire.handCall(x, 0, 0), OnceWire.RAN);
        due.same("runs", x.runs(), 5);
        due.end();
    }
}
