/** Promises 12 and 13: count and fault. */
public final class CountAndFaultTest implements Steps {
    private static final Checks checks = new Checks("promises 12 and 13");
    private static final int[] NO_WHAT = {-1, 6, 7, Integer.MIN_VALUE, Integer.MAX_VALUE};

    public static void main(String[] args) {
        noSuchWhat();
        stepsAndBlocks();
        ofTheLatestRun();
        faults();
        chains();
        checks.end();
    }

    private static void noSuchWhat() {
        Script s = new Script(checks).add(THROW, 1).runs(9);
        for (int what : NO_WHAT) {
            checks.due("count(" + what + ")", s.x.count(what), -1);
            checks.due("fault(" + what + ")", s.x.fault(what), -1);
        }
    }

    private static void stepsAndBlocks() {
        Script s = new Script(checks);
        int[] steps = {LOOP, TRY, CATCH, FINALLY, END, IF, END, END};
        int[] open = {1, 2, 2, 2, 1, 2, 1, 0};
        for (int i = 0; i < steps.length; i++) {
            s.add(steps[i], 1, 1, 1);
            checks.due("count(0)", s.x.count(0), i + 1);
            checks.due("count(1)", s.x.count(1), open[i]);
        }
        s.choose(1);
        checks.due("count(0)", s.x.count(0), 0);
    }

    private static void ofTheLatestRun() {
        Script s = new Script(checks).add(LOOP, 3).add(TRY).add(THROW, 1).add(CATCH, 9)
            .add(FINALLY).add(NOTE, 0).add(END).add(END);
        s.counts(0, 0, 0).runs(0).counts(1 + 3 * 4, 3, 3);
        checks.due("count(3)", s.x.count(3), 3);
        // They are of the run, whatever routine is at hand; another run begins them anew.
        s.choose(1).counts(13, 3, 3);
        s.runs(0).counts(0, 0, 0);
        checks.due("count(3)", s.x.count(3), 0);
        // A step that throws is counted, END, CATCH and FINALLY are not; parts that are not begun are not.
        s.add(TRY).add(CATCH, 1).add(TRY).add(FINALLY).add(END).add(END).add(COUNT, 0, 0)
            .runs(3).counts(2, 0, 0);
        // A FINALLY part that throws was begun, a fault that AGAIN throws is CAUGHT once more.
        s.choose(2).add(TRY).add(TRY).add(TRY).add(THROW, 1).add(CATCH, 1).add(AGAIN).add(END)
            .add(CATCH, 1).add(AGAIN).add(FINALLY).add(THROW, 2).add(END)
            .add(CATCH, 9).add(TELL).add(FINALLY).add(END).runs(0).counts(8, 3, 2).logs(9, 90, 3, 0);
    }

    private static void faults() {
        // Each kind with its weight, thrown by step 2 of routine 1.
        int[][] throwing = {{COUNT, 0, 0, 0}, {GET, 9, 1, 0}, {MAKE, 9, 2, 0}, {FINE, 3, 0, 0},
            {MAKE, 9, 3, 0}, {THROW, 42, 0, 0}, {CALL, 2, 0, 0}};
        int[][] due = {{3, 42, 11, 0, 0, 42}, {4, 42, 1, 0, 0, 42}, {5, 42, 3, 0, 0, 42}, {7, 42, 101, 0, 0, 42},
            {8, 42, 106, 0, 0, 42}, {9, 42, 43, 42, 0, 42}, {10, 42, 1, 0, 0, 42}};
        for (int i = 0; i < due.length; i++) {
            Script s = new Script(checks).choose(2).add(TRY);
            s.choose(0).add(SET, 2, -8).add(SET, 3, 1000).add(SET, 1, 80).add(CALL, 1).add(NOTE, 0);
            s.choose(1).add(MAKE, 9, 0).add(NOTE, 0).add(throwing[i][0], throwing[i][1], throwing[i][2], throwing[i][3]);
            s.noFault();
            s.choose(0).runs(due[i][0]).faults(due[i][0], due[i][1], due[i][2], due[i][3], due[i][4], due[i][5]);
            s.choose(3).runs(0).noFault();
        }
    }

    private static void chains() {
        // MISSING 11, wrapped: 2 * (12 + 5) = 34, wrapped: 2 * (35 + 99) = 268.
        Script s = new Script(checks).add(TRY).add(TRY).add(DROP, 0).add(PUT, 0, 0, 0)
            .add(CATCH, 2).add(NOTE, 0).add(WRAP, 5).add(END)
            .add(CATCH, 9).add(TELL).add(WRAP, 99).add(END);
        s.runs(11).logs(0, 11, 6, 34, 1).faults(11, 10, 268, 99, 2, 3);
        s.runs(11).faults(11, 10, 268, 99, 2, 3);
        // It stays until the next run that is done.
        s.add(TRY).runs(-1).faults(11, 10, 268, 99, 2, 3);
        s.clear().faults(11, 10, 268, 99, 2, 3);
        s.choose(1).faults(11, 10, 268, 99, 2, 3).runs(0).noFault();
    }
}
