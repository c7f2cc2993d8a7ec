/** Promises 2 and 4: choose and clear. */
public final class ChooseAndClearTest implements Steps {
    public static void main(String[] args) {
        Checks checks = new Checks("promises 2 and 4");
        chooses(checks);
        clears(checks);
        checks.end();
    }

    private static void chooses(Checks checks) {
        Script s = new Script(checks);
        s.add(SET, 0, 8).add(SET, 1, 8);
        s.choose(3).add(SET, 0, 80);
        int[] none = {-1, 4, 5, Integer.MAX_VALUE, Integer.MIN_VALUE};
        for (int r : none) {
            checks.due("choose(" + r + ")", s.x.choose(r), -1);
            checks.due("count(0), routine 3 being at hand still", s.x.count(0), 1);
        }
        s.choose(0);
        checks.due("count(0) of routine 0", s.x.count(0), 2);
        s.choose(1).choose(2).choose(3).runs(0);
        checks.due("dial(0), set by routine 3", s.x.dial(0), 10.0);
        checks.due("dial(1), not set by routine 3", s.x.dial(1), 0.0);

        // Blocks are open in their own routine alone.
        s.choose(1).add(TRY);
        checks.due("count(1) of routine 1", s.x.count(1), 1);
        s.choose(2);
        checks.due("count(1) of routine 2", s.x.count(1), 0);
        checks.due("END in routine 2", s.x.step(0, 0, 0, 0), -2);
        s.choose(1).add(END);
    }

    private static void clears(Checks checks) {
        Script s = new Script(checks);
        checks.due("clear() of no steps", s.x.clear(), 0);
        s.choose(1).add(SET, 1, 8);
        s.choose(0).add(SET, 0, 8).add(MAKE, 0, 0).add(NOTE, 0).add(THROW, 5).runs(9);
        s.clear();
        checks.due("count(0) behind clear", s.x.count(0), 0);
        checks.due("count(1) behind clear", s.x.count(1), 0);
        checks.due("dial(0) behind clear", s.x.dial(0), 1.0);
        checks.due("size(0) behind clear", s.x.size(0), 1);
        s.counts(4, 0, 0).logs(1).faults(9, 3, 6, 5, 0, 3);
        s.choose(1).choose(0);

        // Open blocks are gone, with their parts.
        s.add(LOOP, 2).add(TRY).add(CATCH, 1).clear();
        checks.due("count(1)", s.x.count(1), 0);
        checks.due("END", s.x.step(0, 0, 0, 0), -2);
        checks.due("LEAVE", s.x.step(5, 0, 0, 0), -2);
        checks.due("TELL", s.x.step(10, 0, 0, 0), -2);
        s.runs(0).counts(0, 0, 0).noFault();

        for (int i = 0; i < 40; i++) {
            s.add(SET, 0, i);
        }
        s.clear();
        s.add(NOTE, 0).runs(0).logs(1);
    }
}
