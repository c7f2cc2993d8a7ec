/** Promises 10 and 11: log and isMinus. */
public final class LogTest implements Steps {
    private static final Checks checks = new Checks("promises 10 and 11");

    public static void main(String[] args) {
        notes();
        tells();
        newWithEachRun();
        longest();
        checks.end();
    }

    private static void notes() {
        Script s = new Script(checks);
        double[] notes = {-0.0, 0.0, -1e-300, 1e15};
        for (int d = 0; d < 4; d++) {
            s.load(d, notes[d]);
        }
        s.add(NOTE, 0).add(NOTE, 1).add(NOTE, 2).add(NOTE, 3).runs(0).logs(notes);
        boolean[] minus = {true, false, true, false};
        for (int i = 0; i < 4; i++) {
            checks.due("isMinus(" + i + ")", s.x.isMinus(i), minus[i]);
        }
        int[] none = {-1, 4, 5, 800, Integer.MIN_VALUE, Integer.MAX_VALUE};
        for (int i : none) {
            checks.due("log(" + i + ")", s.x.log(i), 0.0);
            checks.due("isMinus(" + i + ")", s.x.isMinus(i), false);
        }
    }

    private static void tells() {
        // Kind, place, weight, earlier ones.
        Script s = new Script(checks).choose(2).add(NOTE, 0).add(WHOLE, 3, 0, 0);
        s.choose(0).add(TRY).add(TRY).add(CALL, 2).add(CATCH, 6).add(TELL).add(WRAP, 9).add(END)
            .add(CATCH, 11).add(TELL).add(END).runs(0)
            .logs(0, 7, 81, 101, 0, 11, 5, 222, 1);
    }

    private static void newWithEachRun() {
        Script s = new Script(checks).add(SET, 0, -8).add(NOTE, 0).runs(0).logs(-1);
        s.runs(0).logs(-1);
        // A run that is not done leaves it.
        s.add(TRY).runs(-1).logs(-1);
        s.clear().runs(0).logs();
        checks.due("isMinus(0) of the empty log", s.x.isMinus(0), false);
    }

    private static void longest() {
        // As many TELLs as 200 steps leave room for.
        Script s = new Script(checks).add(TRY).add(THROW, 3).add(CATCH, 1).add(LOOP, 6);
        for (int i = 0; i < 32; i++) {
            s.add(TELL);
        }
        s.add(END).add(END).runs(10);
        // 200 less TRY, THROW, LOOP and its six rounds.
        checks.due("count(3)", s.x.count(3), 4 * (200 - 9));
        for (int i = 0; i < 4 * 191; i += 4) {
            checks.due("log(" + i + ")", s.x.log(i), 9.0);
            checks.due("log(" + (i + 1) + ")", s.x.log(i + 1), 1.0);
            if (i >= 4 * 50) {
                i += 40;
            }
        }
        checks.due("log(763)", s.x.log(763), 0.0);
        checks.due("log(762)", s.x.log(762), 4.0);
        checks.due("log(764)", s.x.log(764), 0.0);
    }
}
