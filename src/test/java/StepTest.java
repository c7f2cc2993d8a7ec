/** Promise 3: which steps are taken, and in which order what is wrong with them is told. */
public final class StepTest {
    private static final int[] EDGES = {Integer.MIN_VALUE, -2, -1, 0, 1, 2, 3, 4, 5, 6, 7, 8, 10, 11, 12, 13, 14, 15, 16,
        17, 18, 98, 99, 100, Integer.MAX_VALUE};
    private static final Checks checks = new Checks("promise 3");

    public static void main(String[] args) {
        arguments();
        unknownSteps();
        ends();
        parts();
        leaves();
        returns();
        usesOfCaught();
        depth();
        full();
        checks.end();
    }

    /** By the step's number: {least a, most a, most b, most c}, -1 where it is not looked at. */
    private static final int[][] TOLD = {
        {0, -1, -1, -1}, {0, -1, -1, -1}, {1, 11, -1, -1}, {0, -1, -1, -1}, {0, 6, -1, -1},
        {0, -1, -1, -1}, {0, -1, -1, -1}, {0, 99, -1, -1}, {0, -1, -1, -1}, {0, 99, -1, -1},
        {0, -1, -1, -1}, {0, 7, 3, 7}, {0, 3, -1, -1},
        {0, 17, 7, -1}, {0, 17, -1, -1}, {0, 17, 7, -1}, {0, 17, 7, 7}, {0, 17, 7, 7},
        {16, 17, 7, -1}, {0, 7, -1, -1}, {0, 13, 7, 7}, {0, 13, 7, 7}, {0, 7, 7, 7}, {0, 7, 7, 7}, {0, 7, -1, -1}};

    private static void arguments() {
        for (int what = 0; what <= 24; what++) {
            int[] told = TOLD[what];
            for (int edge : EDGES) {
                boolean a = told[1] < 0 || (edge >= told[0] && edge <= told[1]);
                takes(what, edge, 0, 0, a);
                takes(what, told[0], edge, 0, told[2] < 0 || (edge >= 0 && edge <= told[2]));
                takes(what, told[0], 0, edge, told[3] < 0 || (edge >= 0 && edge <= told[3]));
            }
        }
    }

    /** In a CATCH part within a LOOP, where every step may stand. */
    private static void takes(int what, int a, int b, int c, boolean due) {
        GaugeBench x = new GaugeBench();
        x.step(Script.LOOP, 1, 0, 0);
        x.step(Script.TRY, 0, 0, 0);
        x.step(Script.CATCH, 1, 0, 0);
        String call = "step(" + what + ", " + a + ", " + b + ", " + c + ")";
        checks.due(call, x.step(what, a, b, c), due ? 4 : -1);
        checks.due("count(0) behind " + call, x.count(0), due ? 4 : 3);
    }

    private static void unknownSteps() {
        GaugeBench x = new GaugeBench();
        int[] none = {-1, 25, 26, 100, Integer.MIN_VALUE, Integer.MAX_VALUE};
        for (int what : none) {
            checks.due("step(" + what + ", 0, 0, 0)", x.step(what, 0, 0, 0), -1);
        }
        // A wrong argument is told before a wrong stand.
        checks.due("CATCH 12 without a TRY", x.step(Script.CATCH, 12, 0, 0), -1);
        checks.due("CATCH 0 without a TRY", x.step(Script.CATCH, 0, 0, 0), -1);
        checks.due("CATCH 1 without a TRY", x.step(Script.CATCH, 1, 0, 0), -2);
        checks.due("WRAP 100 outside", x.step(Script.WRAP, 100, 0, 0), -1);
        checks.due("WRAP 99 outside", x.step(Script.WRAP, 99, 0, 0), -2);
        checks.due("count(0)", x.count(0), 0);
    }

    private static void refuses(Script s, int due, int what, int a) {
        int steps = s.x.count(0);
        int open = s.x.count(1);
        checks.due("step(" + what + ", " + a + ", 0, 0)", s.x.step(what, a, 0, 0), due);
        checks.due("count(0) behind it", s.x.count(0), steps);
        checks.due("count(1) behind it", s.x.count(1), open);
    }

    private static void ends() {
        Script s = new Script(checks);
        refuses(s, -2, Script.END, 0);
        s.add(Script.IF, 0, 0, 0).add(Script.END);
        refuses(s, -2, Script.END, 0);
        s.add(Script.LOOP, 0).add(Script.TRY).add(Script.END).add(Script.END);
        refuses(s, -2, Script.END, 0);
    }

    private static void parts() {
        Script s = new Script(checks);
        refuses(s, -2, Script.FINALLY, 0);
        s.add(Script.LOOP, 1);
        refuses(s, -2, Script.CATCH, 1);
        refuses(s, -2, Script.FINALLY, 0);
        s.add(Script.TRY).add(Script.IF, 0, 0, 0);
        refuses(s, -2, Script.CATCH, 1);
        refuses(s, -2, Script.FINALLY, 0);
        s.add(Script.END).add(Script.CATCH, 1).add(Script.CATCH, 1).add(Script.CATCH, 11);
        refuses(s, -2, Script.CATCH, 1);
        // The three are the outer TRY's own: an inner one has room for three of its own.
        s.add(Script.TRY).add(Script.CATCH, 1).add(Script.CATCH, 2).add(Script.CATCH, 3);
        refuses(s, -2, Script.CATCH, 1);
        s.add(Script.FINALLY);
        refuses(s, -2, Script.FINALLY, 0);
        refuses(s, -2, Script.CATCH, 1);
        s.add(Script.END);
        refuses(s, -2, Script.CATCH, 1);
        s.add(Script.FINALLY).add(Script.END);
        refuses(s, -2, Script.FINALLY, 0);
        s.add(Script.TRY).add(Script.FINALLY);
        refuses(s, -2, Script.CATCH, 1);
        s.add(Script.END).add(Script.END);
        refuses(s, -2, Script.CATCH, 1);
        checks.due("count(1)", s.x.count(1), 0);
    }

    private static void leaves() {
        Script s = new Script(checks);
        refuses(s, -2, Script.LEAVE, 0);
        s.add(Script.IF, 0, 1, 0);
        refuses(s, -2, Script.LEAVE, 0);
        s.add(Script.LOOP, 1).add(Script.LEAVE).add(Script.IF, 0, 1, 0).add(Script.LEAVE).add(Script.TRY).add(Script.LEAVE);
        s.add(Script.CATCH, 1).add(Script.LEAVE).add(Script.FINALLY);
        refuses(s, -2, Script.LEAVE, 0);
        s.add(Script.IF, 0, 1, 0);
        refuses(s, -2, Script.LEAVE, 0);
        // A LOOP within the FINALLY part may be left; behind its END it is as before.
        s.add(Script.LOOP, 1).add(Script.LEAVE).add(Script.END);
        refuses(s, -2, Script.LEAVE, 0);
        s.add(Script.END);
        refuses(s, -2, Script.LEAVE, 0);
        s.add(Script.END).add(Script.LEAVE).add(Script.END).add(Script.END);
        refuses(s, -2, Script.LEAVE, 0);
    }

    private static void returns() {
        Script s = new Script(checks);
        s.add(Script.RETURN).add(Script.TRY).add(Script.RETURN).add(Script.CATCH, 1).add(Script.RETURN).add(Script.FINALLY);
        refuses(s, -2, Script.RETURN, 0);
        s.add(Script.LOOP, 1);
        refuses(s, -2, Script.RETURN, 0);
        s.add(Script.TRY);
        refuses(s, -2, Script.RETURN, 0);
        s.add(Script.CATCH, 1);
        refuses(s, -2, Script.RETURN, 0);
        s.add(Script.END).add(Script.END);
        refuses(s, -2, Script.RETURN, 0);
        s.add(Script.END).add(Script.RETURN);
    }

    private static void usesOfCaught() {
        int[] uses = {Script.AGAIN, Script.WRAP, Script.TELL};
        for (int use : uses) {
            Script s = new Script(checks);
            refuses(s, -2, use, 0);
            s.add(Script.TRY);
            refuses(s, -2, use, 0);
            s.add(Script.CATCH, 1).add(use, 0).add(Script.LOOP, 1).add(use, 0).add(Script.TRY).add(use, 0);
            // The outer CATCH part is open still in the inner FINALLY part.
            s.add(Script.FINALLY).add(use, 0).add(Script.END).add(Script.END).add(Script.FINALLY);
            refuses(s, -2, use, 0);
            s.add(Script.TRY).add(Script.CATCH, 2).add(use, 0).add(Script.END);
            refuses(s, -2, use, 0);
            s.add(Script.END);
            refuses(s, -2, use, 0);
        }
    }

    private static void depth() {
        int[][] blocks = {{Script.TRY, 0, 0, 0}, {Script.LOOP, 6, 0, 0}, {Script.IF, 7, 3, 7}};
        for (int[] block : blocks) {
            Script s = new Script(checks);
            for (int i = 1; i <= 6; i++) {
                s.add(block[0], block[1], block[2], block[3]);
                checks.due("count(1)", s.x.count(1), i);
            }
            refuses(s, -2, Script.TRY, 0);
            refuses(s, -2, Script.LOOP, 0);
            refuses(s, -2, Script.IF, 0);
            s.add(Script.END).add(Script.TRY).add(Script.END);
            checks.due("count(1)", s.x.count(1), 5);
        }
    }

    private static void full() {
        Script s = new Script(checks);
        s.add(Script.TRY);
        for (int i = 0; i < 39; i++) {
            s.add(Script.NOTE, 0);
        }
        refuses(s, -3, Script.NOTE, 0);
        refuses(s, -3, Script.END, 0);
        refuses(s, -3, Script.CATCH, 1);
        refuses(s, -3, Script.TRY, 0);
        refuses(s, -2, Script.LEAVE, 0);
        refuses(s, -2, Script.TELL, 0);
        refuses(s, -1, Script.CATCH, 0);
        refuses(s, -1, Script.NOTE, 8);
        refuses(s, -1, 25, 0);
        checks.due("run() of an open block", s.x.run(), -1);
        s.clear();
        for (int i = 0; i < 40; i++) {
            s.add(Script.NOTE, 0);
        }
        refuses(s, -2, Script.END, 0);
        refuses(s, -3, Script.RETURN, 0);
        s.runs(0).counts(40, 0, 0);
        // Another routine has its own 40.
        s.choose(2).add(Script.NOTE, 0);
    }
}
