/** Promise 3: which steps are taken, and in which order what is wrong with them is told. */
public final class StepTest implements Steps {
    private static final int[] EDGES = {Integer.MIN_VALUE, -2, -1, 0, 1, 2, 3, 4, 5, 6, 7, 8, 10, 11, 12, 13, 14, 15, 16,
        17, 18, 98, 99, 100, Integer.MAX_VALUE};
    private static final Checks checks = new Checks("promise 3");

    public static void main(String[] args) {
        arguments();
        unknownSteps();
        ends();
        parts();
        leaves();
        returns();
        usesOfCaught();
        depth();
        full();
        lastOfForty();
        notNamed();
        nothingIsDone();
        openParts();
        checks.end();
    }

    /** By the step's number: {least a, most a, most b, most c}, -1 where it is not looked at. */
    private static final int[][] TOLD = {
        {0, -1, -1, -1}, {0, -1, -1, -1}, {1, 11, -1, -1}, {0, -1, -1, -1}, {0, 6, -1, -1},
        {0, -1, -1, -1}, {0, -1, -1, -1}, {0, 99, -1, -1}, {0, -1, -1, -1}, {0, 99, -1, -1},
        {0, -1, -1, -1}, {0, 7, 3, 7}, {0, 3, -1, -1},
        {0, 17, 7, -1}, {0, 17, -1, -1}, {0, 17, 7, -1}, {0, 17, 7, 7}, {0, 17, 7, 7},
        {16, 17, 7, -1}, {0, 7, -1, -1}, {0, 13, 7, 7}, {0, 13, 7, 7}, {0, 7, 7, 7}, {0, 7, 7, 7}, {0, 7, -1, -1}};

    /** What the document says of each step, by its number. */
    private static final String[] WORDS = {
        "0 END: closes the block that was opened last.", "1 TRY: opens a block.",
        "2 CATCH a (1 .. 11), 3 FINALLY: in a TRY that was opened last: its part up to there ends, the next one begins.",
        "3 FINALLY: in a TRY that was opened last: its part up to there ends, the next one begins.", "4 LOOP a (0 .. 6): opens a block.",
        "5 LEAVE.", "6 RETURN.", "7 THROW a (0 .. 99).", "8 AGAIN.", "9 WRAP a (0 .. 99).", "10 TELL.",
        "11 IF dial a, b (0 below, 1 like, 2 not like, 3 not below) dial c: opens a block.", "12 CALL routine a (0 .. 3).",
        "13 MAKE row a, dial b.", "14 DROP row a.", "15 COUNT row a, dial b.", "16 GET row a, dial b, dial c.",
        "17 PUT row a, dial b, dial c.", "18 FIT row a (16, 17), dial b.", "19 SET dial a to b eighths.",
        "20 FINE a (0 .. 13), dial b, dial c.", "21 ROUGH a (0 .. 13), dial b, dial c.", "22 WHOLE a (0 .. 7), dial b, dial c.",
        "23 WIDE a (0 .. 7), dial b, dial c.", "24 NOTE dial a."};

    private static void arguments() {
        checks.sentence("-1: what is not 0 .. 24, or a number, kind, dial, row, routine among its arguments is none that is told; else -2:");
        for (int what = 0; what <= 24; what++) {
            checks.sentence(WORDS[what]);
            int[] told = TOLD[what];
            for (int edge : EDGES) {
                boolean a = told[1] < 0 || (edge >= told[0] && edge <= told[1]);
                takes(what, edge, 0, 0, a);
                takes(what, told[0], edge, 0, told[2] < 0 || (edge >= 0 && edge <= told[2]));
                takes(what, told[0], 0, edge, told[3] < 0 || (edge >= 0 && edge <= told[3]));
            }
            // Every argument at its most, and one of them just above that.
            int[] most = {told[1], told[2], told[3]};
            takes(what, most[0], most[1], most[2], true);
            for (int i = 0; i < 3; i++) {
                int[] above = most.clone();
                above[i]++;
                takes(what, above[0], above[1], above[2], most[i] < 0);
            }
        }
    }

    /** In a CATCH part within a LOOP, where every step may stand. */
    private static void takes(int what, int a, int b, int c, boolean due) {
        GaugeBench x = new GaugeBench();
        x.step(LOOP, 1, 0, 0);
        x.step(TRY, 0, 0, 0);
        x.step(CATCH, 1, 0, 0);
        String call = "step(" + what + ", " + a + ", " + b + ", " + c + ")";
        checks.due(call, x.step(what, a, b, c), due ? 4 : -1);
        checks.due("count(0) behind " + call, x.count(0), due ? 4 : 3);
        int opens = what == TRY || what == LOOP || what == IF ? 1 : what == END ? -1 : 0;
        checks.due("count(1) behind " + call, x.count(1), due ? 2 + opens : 2);
    }

    private static void unknownSteps() {
        checks.sentence("-1: what is not 0 .. 24,");
        GaugeBench x = new GaugeBench();
        int[] none = {-1, 25, 26, 100, Integer.MIN_VALUE, Integer.MAX_VALUE};
        for (int what : none) {
            checks.due("step(" + what + ", 0, 0, 0)", x.step(what, 0, 0, 0), -1);
        }
        // A wrong argument is told before a wrong stand.
        checks.due("CATCH 12 without a TRY", x.step(CATCH, 12, 0, 0), -1);
        checks.due("CATCH 0 without a TRY", x.step(CATCH, 0, 0, 0), -1);
        checks.due("CATCH 1 without a TRY", x.step(CATCH, 1, 0, 0), -2);
        checks.due("WRAP 100 outside", x.step(WRAP, 100, 0, 0), -1);
        checks.due("WRAP 99 outside", x.step(WRAP, 99, 0, 0), -2);
        checks.due("count(0)", x.count(0), 0);
    }

    private static void refuses(Script s, int due, int what, int a) {
        int steps = s.x.count(0);
        int open = s.x.count(1);
        checks.due("step(" + what + ", " + a + ", 0, 0)", s.x.step(what, a, 0, 0), due);
        checks.due("count(0) behind it", s.x.count(0), steps);
        checks.due("count(1) behind it", s.x.count(1), open);
    }

    private static void ends() {
        checks.sentence("else -2: END where no block is open;");
        Script s = new Script(checks);
        refuses(s, -2, END, 0);
        s.add(IF, 0, 0, 0).add(END);
        refuses(s, -2, END, 0);
        s.add(LOOP, 0).add(TRY).add(END).add(END);
        refuses(s, -2, END, 0);
    }

    private static void parts() {
        checks.sentence("CATCH, FINALLY where the block that was opened last (and is open) is no TRY, or has its FINALLY, CATCH where it has three;");
        Script s = new Script(checks);
        refuses(s, -2, FINALLY, 0);
        s.add(LOOP, 1);
        refuses(s, -2, CATCH, 1);
        refuses(s, -2, FINALLY, 0);
        s.add(TRY).add(IF, 0, 0, 0);
        refuses(s, -2, CATCH, 1);
        refuses(s, -2, FINALLY, 0);
        s.add(END).add(CATCH, 1).add(CATCH, 1).add(CATCH, 11);
        refuses(s, -2, CATCH, 1);
        // The three are the outer TRY's own: an inner one has room for three of its own.
        s.add(TRY).add(CATCH, 1).add(CATCH, 2).add(CATCH, 3);
        refuses(s, -2, CATCH, 1);
        s.add(FINALLY);
        refuses(s, -2, FINALLY, 0);
        refuses(s, -2, CATCH, 1);
        s.add(END);
        refuses(s, -2, CATCH, 1);
        s.add(FINALLY).add(END);
        refuses(s, -2, FINALLY, 0);
        s.add(TRY).add(FINALLY);
        refuses(s, -2, CATCH, 1);
        s.add(END).add(END);
        refuses(s, -2, CATCH, 1);
        checks.due("count(1)", s.x.count(1), 0);
    }

    private static void leaves() {
        checks.sentence("LEAVE where no LOOP is open, or a FINALLY part is open within the innermost one that is;");
        Script s = new Script(checks);
        refuses(s, -2, LEAVE, 0);
        s.add(IF, 0, 1, 0);
        refuses(s, -2, LEAVE, 0);
        s.add(LOOP, 1).add(LEAVE).add(IF, 0, 1, 0).add(LEAVE).add(TRY).add(LEAVE);
        s.add(CATCH, 1).add(LEAVE).add(FINALLY);
        refuses(s, -2, LEAVE, 0);
        s.add(IF, 0, 1, 0);
        refuses(s, -2, LEAVE, 0);
        // A LOOP within the FINALLY part may be left; behind its END it is as before.
        s.add(LOOP, 1).add(LEAVE).add(END);
        refuses(s, -2, LEAVE, 0);
        s.add(END);
        refuses(s, -2, LEAVE, 0);
        s.add(END).add(LEAVE).add(END).add(END);
        refuses(s, -2, LEAVE, 0);
    }

    private static void returns() {
        checks.sentence("RETURN where a FINALLY part is open;");
        Script s = new Script(checks);
        s.add(RETURN).add(TRY).add(RETURN).add(CATCH, 1).add(RETURN).add(FINALLY);
        refuses(s, -2, RETURN, 0);
        s.add(LOOP, 1);
        refuses(s, -2, RETURN, 0);
        s.add(TRY);
        refuses(s, -2, RETURN, 0);
        s.add(CATCH, 1);
        refuses(s, -2, RETURN, 0);
        s.add(END).add(END);
        refuses(s, -2, RETURN, 0);
        s.add(END).add(RETURN);
    }

    private static void usesOfCaught() {
        checks.sentence("AGAIN, WRAP, TELL where no CATCH part is open;");
        int[] uses = {AGAIN, WRAP, TELL};
        for (int use : uses) {
            Script s = new Script(checks);
            refuses(s, -2, use, 0);
            s.add(TRY);
            refuses(s, -2, use, 0);
            s.add(CATCH, 1).add(use, 0).add(LOOP, 1).add(use, 0).add(TRY).add(use, 0);
            // The outer CATCH part is open still in the inner FINALLY part.
            s.add(FINALLY).add(use, 0).add(END).add(END).add(FINALLY);
            refuses(s, -2, use, 0);
            s.add(TRY).add(CATCH, 2).add(use, 0).add(END);
            refuses(s, -2, use, 0);
            s.add(END);
            refuses(s, -2, use, 0);
        }
    }

    private static void depth() {
        checks.sentence("a block where 6 are open; else -3: there are 40.");
        int[][] blocks = {{TRY, 0, 0, 0}, {LOOP, 6, 0, 0}, {IF, 7, 3, 7}};
        for (int[] block : blocks) {
            Script s = new Script(checks);
            for (int i = 1; i <= 6; i++) {
                s.add(block[0], block[1], block[2], block[3]);
                checks.due("count(1)", s.x.count(1), i);
            }
            refuses(s, -2, TRY, 0);
            refuses(s, -2, LOOP, 0);
            refuses(s, -2, IF, 0);
            s.add(END).add(TRY).add(END);
            checks.due("count(1)", s.x.count(1), 5);
        }
    }

    private static void full() {
        checks.sentence("a block where 6 are open; else -3: there are 40.");
        Script s = new Script(checks);
        s.add(TRY);
        for (int i = 0; i < 39; i++) {
            s.add(NOTE, 0);
        }
        refuses(s, -3, NOTE, 0);
        refuses(s, -3, END, 0);
        refuses(s, -3, CATCH, 1);
        refuses(s, -3, TRY, 0);
        refuses(s, -2, LEAVE, 0);
        refuses(s, -2, TELL, 0);
        refuses(s, -1, CATCH, 0);
        refuses(s, -1, NOTE, 8);
        refuses(s, -1, 25, 0);
        checks.due("run() of an open block", s.x.run(), -1);
        s.clear();
        for (int i = 0; i < 40; i++) {
            s.add(NOTE, 0);
        }
        refuses(s, -2, END, 0);
        refuses(s, -3, RETURN, 0);
        s.runs(0).counts(40, 0, 0);
        // Another routine has its own 40.
        s.choose(2).add(NOTE, 0);
    }

    /** In a CATCH part within a LOOP, where every step may stand: as the 40th it is taken, as the next one not. */
    private static void lastOfForty() {
        checks.sentence("One more step behind the others of the routine at hand: how many there are.");
        for (int what = 0; what <= 24; what++) {
            for (int before = 38; before <= 40; before++) {
                Script s = new Script(checks).add(LOOP, 1).add(TRY).add(CATCH, 1);
                for (int i = 3; i < before; i++) {
                    s.add(NOTE, 0);
                }
                int a = TOLD[what][0];
                checks.due("step(" + what + ", ..) behind " + before, s.x.step(what, a, 0, 0), before < 40 ? before + 1 : -3);
                checks.due("count(0) behind it", s.x.count(0), Math.min(before + 1, 40));
                // A wrong argument is told first, full or not.
                int[] told = TOLD[what];
                if (told[1] >= 0) {
                    checks.due("step(" + what + ", " + (told[1] + 1) + ", ..)", s.x.step(what, told[1] + 1, 0, 0), -1);
                }
            }
        }
        // Where it may not stand, that is told before there being 40.
        Script s = new Script(checks);
        for (int i = 0; i < 6; i++) {
            s.add(IF, 0, 0, 0);
        }
        for (int i = 6; i < 40; i++) {
            s.add(NOTE, 0);
        }
        int[] nowhere = {TRY, LOOP, IF, CATCH, FINALLY, LEAVE, AGAIN, WRAP, TELL};
        for (int what : nowhere) {
            refuses(s, -2, what, 1);
        }
        refuses(s, -3, END, 0);
        refuses(s, -3, RETURN, 0);
    }

    private static void notNamed() {
        checks.sentence("those that are not named are not looked at.");
        int[] any = {Integer.MIN_VALUE, -1, 40, 100, Integer.MAX_VALUE};
        for (int one : any) {
            for (int what = 0; what <= 24; what++) {
                int[] told = TOLD[what];
                takes(what, told[1] < 0 ? one : told[1], told[2] < 0 ? one : told[2], told[3] < 0 ? one : told[3], true);
            }
            // And they change nothing of what the step does.
            Script s = new Script(checks).add(SET, 0, 16, one).add(MAKE, 9, 0, one).add(COUNT, 9, 1, one).add(NOTE, 1, one, one)
                .add(LOOP, 2, one, one).add(NOTE, 0, one, one).add(END, one, one, one).add(DROP, 9, one, one)
                .add(TRY, one, one, one).add(THROW, 3, one, one).add(CATCH, 9, one, one).add(WRAP, 4, one, one)
                .add(FINALLY, one, one, one).add(NOTE, 0, one, one).add(END, one, one, one).runs(11);
            s.logs(2, 2, 2, 2).faults(11, 11, 18, 4, 1, 9);
            checks.due("size(9)", s.x.size(9), -1);
        }
    }

    private static void nothingIsDone() {
        checks.sentence("(Nothing is done then.");
        // Refused parts are none: three CATCH parts and a FINALLY part are taken still.
        Script s = new Script(checks).add(TRY);
        for (int i = 0; i < 4; i++) {
            refuses(s, -1, CATCH, 0);
            refuses(s, -1, CATCH, 12);
            refuses(s, -2, TELL, 0);
            refuses(s, -2, LEAVE, 0);
        }
        s.add(THROW, 5);
        s.add(CATCH, 3).add(CATCH, 9).add(CATCH, 1);
        refuses(s, -2, CATCH, 9);
        // The refused CATCH has not ended the third part.
        s.add(TELL).add(FINALLY);
        refuses(s, -2, CATCH, 9);
        refuses(s, -2, FINALLY, 0);
        refuses(s, -2, RETURN, 0);
        s.add(NOTE, 0).add(END);
        refuses(s, -2, END, 0);
        s.runs(0).logs(0).counts(3, 1, 1);
        // Refused blocks are not open: six ENDs close all that is.
        s = new Script(checks);
        for (int i = 0; i < 6; i++) {
            refuses(s, -1, LOOP, 7);
            refuses(s, -1, LOOP, -1);
            s.add(LOOP, 1);
        }
        refuses(s, -2, LOOP, 1);
        for (int i = 0; i < 6; i++) {
            s.add(END);
        }
        refuses(s, -2, END, 0);
        s.runs(0).counts(12, 0, 0);
    }

    private static void openParts() {
        checks.sentence("A CATCH or FINALLY part is open from its CATCH, FINALLY to the next CATCH, FINALLY or the END of its TRY.)");
        Script s = new Script(checks).add(LOOP, 1).add(TRY).add(LEAVE).add(RETURN);
        refuses(s, -2, TELL, 0);
        s.add(CATCH, 1).add(TELL).add(CATCH, 1).add(TELL).add(RETURN).add(LEAVE).add(FINALLY);
        refuses(s, -2, TELL, 0);
        refuses(s, -2, RETURN, 0);
        refuses(s, -2, LEAVE, 0);
        s.add(END).add(RETURN).add(LEAVE);
        refuses(s, -2, TELL, 0);
        // The END of a block within the part does not close the part.
        s = new Script(checks).add(TRY).add(CATCH, 1).add(IF, 0, 1, 0).add(END).add(TELL).add(FINALLY)
            .add(TRY).add(END);
        refuses(s, -2, RETURN, 0);
        s.add(END).add(RETURN);
        // An inner FINALLY part that is closed leaves the outer LOOP free to be left, the outer one does not.
        s = new Script(checks).add(TRY).add(FINALLY).add(LOOP, 1).add(TRY).add(FINALLY);
        refuses(s, -2, LEAVE, 0);
        s.add(END).add(LEAVE);
        refuses(s, -2, RETURN, 0);
        s.add(END);
        refuses(s, -2, LEAVE, 0);
    }
}
