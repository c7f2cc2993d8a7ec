/** Promise 1: a new object. */
public final class NewObjectTest {
    public static void main(String[] args) {
        Checks checks = new Checks("promise 1");
        GaugeBench x = new GaugeBench();
        checks.due("count(0)", x.count(0), 0);
        for (int what = 1; what <= 5; what++) {
            checks.due("count(" + what + ")", x.count(what), 0);
        }
        for (int what = 0; what <= 5; what++) {
            checks.due("fault(" + what + ")", x.fault(what), -1);
        }
        for (int d = 0; d < 8; d++) {
            checks.due("dial(" + d + ")", x.dial(d), 0.0);
        }
        for (int w = 0; w < 18; w++) {
            checks.due("size(" + w + ")", x.size(w), -1);
            checks.due("value(" + w + ", 0)", x.value(w, 0), 0.0);
            checks.due("isFitted(" + w + ", 0)", x.isFitted(w, 0), false);
        }
        checks.due("log(0)", x.log(0), 0.0);
        checks.due("isMinus(0)", x.isMinus(0), false);

        // Routine 0 is at hand: a step that is written now is found in it, and in no other.
        x.step(19, 0, 8, 0);
        for (int r = 3; r >= 0; r--) {
            checks.due("choose(" + r + ")", x.choose(r), r == 0 ? 1 : 0);
        }

        GaugeBench other = new GaugeBench();
        checks.due("count(0) of another object", other.count(0), 0);
        checks.due("run() of no steps", other.run(), 0);
        checks.end();
    }
}
