/** The sentences about a run: what is counted, when it is TIRED, TRY, LOOP, LEAVE, IF, RETURN, CALL, the LOG. */
public final class RunEdgesTest implements Steps {
    private static final Checks checks = new Checks("edges of a run");
    private static final double BELOW_ONE = 0.9999999999999999;

    public static void main(String[] args) {
        oneBehindTheOther();
        counted();
        tiredSteps();
        tiredRounds();
        tiredRoundsOfSteps();
        tiredMarks();
        tiredIsCaughtAround();
        throwingDoesNothingElse();
        firstPart();
        firstCatchThatFits();
        finallyHoweverLeft();
        finallyThatThrows();
        finallyOfNestedTries();
        loops();
        leaves();
        ifs();
        returns();
        openCalls();
        callsAtOnce();
        callsWithinBlocks();
        callsThatAreOver();
        faultsOfCalls();
        logOfARun();
        longestLog();
        whatStays();
        checks.end();
    }

    private static Script script() {
        return new Script(checks);
    }

    private static void oneBehindTheOther() {
        checks.sentence("A RUN does a routine's steps one behind the other.");
        Script s = script();
        for (int i = 0; i < 20; i++) {
            s.add(SET, 0, 8 * i).add(NOTE, 0);
        }
        s.runs(0).counts(40, 0, 0).logs(0, 1, 2, 3, 4, 5, 6, 7, 8, 9, 10, 11, 12, 13, 14, 15, 16, 17, 18, 19);
    }

    private static void counted() {
        checks.sentence("It COUNTS each step as it is begun (not END, CATCH, FINALLY), and each round, at once;");
        // A block's first step is 1, its END, CATCH and FINALLY are nothing; a step that throws is 1.
        script().add(TRY).add(END).runs(0).counts(1, 0, 0);
        script().add(TRY).add(CATCH, 1).add(CATCH, 1).add(CATCH, 1).add(FINALLY).add(END).runs(0).counts(1, 0, 1);
        script().add(IF, 0, 1, 0).add(END).runs(0).counts(1, 0, 0);
        script().add(IF, 0, 2, 0).add(NOTE, 0).add(END).runs(0).counts(1, 0, 0);
        script().add(LOOP, 0).add(NOTE, 0).add(END).runs(0).counts(1, 0, 0);
        script().add(LOOP, 6).add(END).runs(0).counts(7, 0, 0);
        script().add(LOOP, 6).add(LEAVE).add(END).runs(0).counts(3, 0, 0);
        script().add(RETURN).add(NOTE, 0).runs(0).counts(1, 0, 0);
        script().add(THROW, 0).add(NOTE, 0).runs(9).counts(1, 0, 0);
        script().add(COUNT, 0, 0).add(NOTE, 0).runs(3).counts(1, 0, 0);
        script().add(CALL, 1).runs(0).counts(1, 0, 0);
        script().choose(1).add(NOTE, 0).add(RETURN).add(NOTE, 0).choose(0).add(CALL, 1).runs(0).counts(3, 0, 0);
        // TIRED that CALL and WRAP throw is not the counting: the step is counted.
        script().choose(1).add(TRY).choose(0).add(CALL, 1).runs(10).counts(1, 0, 0);
        // A TELL is one, though it appends four.
        script().add(TRY).add(THROW, 0).add(CATCH, 9).add(TELL).add(END).runs(0).counts(3, 1, 0);
    }

    /**
     * In a CATCH part within a LOOP, where every step may stand, one step as number 5 of routine 0, when
     * so many of the 200 are left; what it uses has been made ready.
     */
    private static Script withLeft(int left, int... step) {
        Script s = script().add(SET, 1, 8).add(SET, 2, 16).add(MAKE, 8, 2).add(MAKE, 16, 1).add(FIT, 16, 0).add(PUT, 16, 0, 2).runs(0).clear();
        s.choose(1).spend(200 - left - 5).choose(0);
        s.add(LOOP, 1).add(TRY).add(THROW, 7).add(CATCH, 1).add(CALL, 1);
        s.add(step[0], step[1], step[2], step[3]);
        if (step[0] == TRY || step[0] == LOOP || step[0] == IF) {
            s.add(END);
        }
        return s.add(END).add(END);
    }

    private static String stateOf(GaugeBench x) {
        StringBuilder state = new StringBuilder();
        for (int d = 0; d < 8; d++) {
            state.append(x.dial(d)).append(' ');
        }
        for (int w = 0; w < 18; w++) {
            state.append(x.size(w)).append('/').append(x.value(w, 0)).append('/').append(x.isFitted(w, 0)).append(' ');
        }
        return state.toString();
    }

    /** Each step, and what run() answers when it is done; those of which that is 0 may change something. */
    private static final int[][] STEPS = {
        {TRY, 0, 0, 0, 0}, {LOOP, 0, 0, 0, 0}, {LEAVE, 0, 0, 0, 0}, {RETURN, 0, 0, 0, 0}, {THROW, 5, 0, 0, 9}, {AGAIN, 0, 0, 0, 9},
        {WRAP, 5, 0, 0, 11}, {TELL, 0, 0, 0, 0}, {IF, 0, 1, 0, 0}, {IF, 0, 2, 0, 0}, {CALL, 2, 0, 0, 0}, {MAKE, 9, 1, 0, 0}, {DROP, 8, 0, 0, 0},
        {COUNT, 8, 0, 0, 0}, {GET, 16, 0, 0, 0}, {PUT, 8, 0, 1, 0}, {FIT, 16, 0, 0, 0}, {SET, 3, 80, 0, 0}, {FINE, 0, 1, 1, 0},
        {ROUGH, 0, 1, 1, 0}, {WHOLE, 0, 1, 1, 0}, {WIDE, 0, 1, 1, 0}, {NOTE, 1, 0, 0, 0}, {COUNT, 0, 0, 0, 3}, {PUT, 8, 2, 1, 4},
        {FINE, 3, 1, 0, 7}};

    private static void tiredSteps() {
        checks.sentence("where 200 are counted the next one throws TIRED and is not counted.");
        for (int[] step : STEPS) {
            String name = "of step " + step[0] + ", " + step[1];
            // As the 200th it is done.
            Script s = withLeft(1, step);
            String before = stateOf(s.x);
            s.runs(step[4]);
            checks.due("count(2) " + name, s.x.count(2), 200);
            checks.due("count(3) " + name, s.x.count(3), step[0] == TELL ? 4 : step[0] == NOTE ? 1 : 0);
            boolean changes = step[4] == 0 && step[0] >= MAKE && step[0] <= WIDE;
            checks.due("whether dials and rows are as before " + name, stateOf(s.x).equals(before), !changes);
            // As the next one it throws TIRED, and nothing else is done.
            s = withLeft(0, step);
            before = stateOf(s.x);
            s.runs(10).counts(200, 1, 0).logs().faults(10, 5, 1, 0, 0, 5);
            checks.due("whether dials and rows are as before the tired one " + name, stateOf(s.x).equals(before), true);
        }
        // A step of a called routine has its own place there.
        Script s = script().choose(2).add(NOTE, 0).choose(1).spend(198).choose(0).add(CALL, 1).add(CALL, 2).runs(10);
        s.logs().counts(200, 0, 0).faults(10, 80, 1, 0, 0, 80);
        s = script().choose(2).add(NOTE, 0).choose(1).spend(197).choose(0).add(CALL, 1).add(CALL, 2).runs(0).logs(0).counts(200, 0, 0);
        // Each run has 200 of its own.
        s.runs(0).counts(200, 0, 0).choose(1).runs(0).counts(197, 0, 0);
    }

    private static void tiredRounds() {
        checks.sentence("LOOP a: a times over: the round is counted (TIRED is thrown by the LOOP then), the block is done.");
        for (int times = 0; times <= 6; times++) {
            for (int left = 0; left <= 8; left++) {
                Script s = script().choose(1).spend(199 - left).choose(0).add(CALL, 1).add(LOOP, times).add(END);
                int all = 1 + times;
                if (all <= left) {
                    s.runs(0).counts(200 - left + all, 0, 0).noFault();
                } else {
                    s.runs(10).counts(200, 0, 0).faults(10, 1, 1, 0, 0, 1);
                }
            }
        }
    }

    private static void tiredRoundsOfSteps() {
        // LOOP, round, NOTE, round, NOTE, round, NOTE: which of them is the first beyond 200.
        int[] places = {1, 1, 2, 1, 2, 1, 2};
        for (int left = 0; left <= 7; left++) {
            Script s = script().choose(1).spend(199 - left).choose(0).add(CALL, 1).add(LOOP, 3).add(NOTE, 0).add(END);
            s.runs(left < 7 ? 10 : 0);
            checks.due("count(2)", s.x.count(2), 200);
            checks.due("count(3), left " + left, s.x.count(3), Math.max(0, (left - 1) / 2));
            checks.due("fault(1), left " + left, s.x.fault(1), left < 7 ? places[left] : -1);
        }
    }

    private static void tiredMarks() {
        // END, CATCH and FINALLY need none: the TRY is the 200th, or the THROW in it.
        Script s = script().choose(1).spend(198).choose(0).add(CALL, 1).add(TRY).add(CATCH, 1).add(FINALLY).add(END);
        s.runs(0).counts(200, 0, 1).noFault();
        s = script().choose(1).spend(197).choose(0).add(CALL, 1).add(TRY).add(THROW, 1).add(CATCH, 1).add(FINALLY).add(END);
        s.runs(0).counts(200, 1, 1).noFault();
        // A step in the CATCH part is the next one; its TIRED goes out, and the FINALLY part is begun.
        s = script().choose(1).spend(197).choose(0).add(CALL, 1).add(TRY).add(THROW, 1).add(CATCH, 1).add(TELL).add(FINALLY).add(END);
        s.runs(10).counts(200, 1, 1).logs().faults(10, 4, 1, 0, 0, 4);
        // A step in the FINALLY part, too: what went on before is forgotten.
        s = script().choose(1).spend(197).choose(0).add(CALL, 1).add(TRY).add(THROW, 1).add(FINALLY).add(NOTE, 0).add(END);
        s.runs(10).counts(200, 0, 1).logs().faults(10, 4, 1, 0, 0, 4);
        // A TRY that is TIRED itself has no part begun, and does not catch that.
        s = script().choose(1).spend(199).choose(0).add(CALL, 1).add(TRY).add(CATCH, 1).add(FINALLY).add(END);
        s.runs(10).counts(200, 0, 0).faults(10, 1, 1, 0, 0, 1);
    }

    private static void tiredIsCaughtAround() {
        // The TRY around a LOOP catches what its round throws, a TRY within the LOOP does not.
        for (int by : new int[] {1, 10}) {
            Script s = script().choose(1).spend(195).choose(0).add(CALL, 1).add(TRY).add(LOOP, 3).add(END).add(CATCH, by).add(END);
            s.runs(0).counts(200, 1, 0).noFault();
            s = script().choose(1).spend(195).choose(0).add(CALL, 1).add(LOOP, 6).add(TRY).add(CATCH, by).add(END).add(END);
            // CALL and 195, LOOP, round, TRY, round: 200; the TRY is the next one.
            s.runs(10).counts(200, 0, 0).faults(10, 2, 1, 0, 0, 2);
            s = script().choose(1).spend(196).choose(0).add(CALL, 1).add(LOOP, 6).add(TRY).add(CATCH, by).add(END).add(END);
            s.runs(10).counts(200, 0, 0).faults(10, 1, 1, 0, 0, 1);
        }
        // By any other kind it is not caught.
        for (int by = 2; by <= 11; by++) {
            if (by != 10) {
                Script s = script().choose(1).spend(198).choose(0).add(CALL, 1).add(TRY).add(NOTE, 0).add(CATCH, by).add(END);
                s.runs(10).counts(200, 0, 0).faults(10, 2, 1, 0, 0, 2);
            }
        }
    }

    private static void throwingDoesNothingElse() {
        checks.sentence("A step that throws does nothing else.");
        int[][] steps = {{COUNT, 0, 1, 0}, {GET, 0, 0, 1}, {GET, 8, 2, 1}, {GET, 17, 0, 1}, {PUT, 0, 0, 1}, {PUT, 8, 2, 1}, {PUT, 17, 0, 1},
            {FIT, 16, 0, 0}, {FIT, 17, 1, 0}, {MAKE, 8, 3, 0}, {MAKE, 8, 4, 0}, {FINE, 3, 1, 0}, {FINE, 4, 1, 0}, {ROUGH, 3, 1, 0}, {ROUGH, 4, 1, 0},
            {WHOLE, 3, 1, 0}, {WHOLE, 4, 1, 0}, {WIDE, 3, 1, 0}, {WIDE, 4, 1, 0}, {FINE, 2, 5, 5}, {ROUGH, 2, 5, 5}, {WIDE, 0, 5, 1}};
        int[] due = {3, 3, 4, 3, 3, 4, 3, 3, 4, 5, 8, 7, 7, 7, 7, 7, 7, 7, 7, 8, 8, 8};
        for (int i = 0; i < steps.length; i++) {
            Script s = script();
            s.load(5, 1e15);
            // Row 8 has two places, row 17 has one, which holds NONE.
            s.add(SET, 1, 8).add(SET, 2, 16).add(SET, 3, -8).add(SET, 4, 136).add(MAKE, 8, 2).add(MAKE, 17, 1).add(PUT, 8, 0, 2).runs(0).clear();
            String before = stateOf(s.x);
            s.add(steps[i][0], steps[i][1], steps[i][2], steps[i][3]).add(SET, 0, 8).runs(due[i]).counts(1, 0, 0).logs();
            checks.due("whether dials and rows are as before step " + steps[i][0], stateOf(s.x).equals(before), true);
        }
    }

    private static void firstPart() {
        checks.sentence("TRY: its first part is done (up to its first CATCH or FINALLY, or its END).");
        script().add(TRY).add(NOTE, 0).add(END).add(NOTE, 1).runs(0).logs(0, 0).counts(3, 0, 0);
        script().add(SET, 1, 8).add(TRY).add(NOTE, 0).add(CATCH, 1).add(NOTE, 1).add(END).runs(0).logs(0).counts(3, 0, 0);
        script().add(SET, 1, 8).add(TRY).add(NOTE, 0).add(FINALLY).add(NOTE, 1).add(END).runs(0).logs(0, 1).counts(4, 0, 1);
        // Without a CATCH part a fault goes on, with and without a FINALLY part.
        script().add(TRY).add(THROW, 1).add(END).add(NOTE, 0).runs(9).logs().counts(2, 0, 0);
        script().add(TRY).add(THROW, 1).add(FINALLY).add(END).add(NOTE, 0).runs(9).logs().counts(2, 0, 1);
        // An empty first part throws nothing.
        script().add(TRY).add(CATCH, 1).add(THROW, 1).add(END).runs(0).counts(1, 0, 0);
    }

    private static void firstCatchThatFits() {
        checks.sentence("If a fault is thrown out of it: the first of its CATCH parts by whose a it is UNDER is done (up to the next CATCH, FINALLY, END), if there is one; "
            + "that fault is CAUGHT there.");
        // MISSING: the CATCH parts by these kinds, and the number of the one that is done (0: none is).
        int[][] parts = {{3, 2, 1, 1}, {1, 2, 3, 1}, {9, 3, 2, 2}, {6, 9, 1, 3}, {6, 9, 10, 0}, {4, 5, 3, 3}, {4, 2, 3, 2}, {2, 2, 2, 1}};
        for (int[] part : parts) {
            for (int finallies = 0; finallies <= 1; finallies++) {
                Script s = script().add(SET, 1, 8).add(SET, 2, 16).add(SET, 3, 24).add(TRY).add(COUNT, 0, 0);
                s.add(CATCH, part[0]).add(NOTE, 1).add(CATCH, part[1]).add(NOTE, 2).add(CATCH, part[2]).add(NOTE, 3);
                if (finallies == 1) {
                    s.add(FINALLY);
                }
                s.add(END).runs(part[3] == 0 ? 3 : 0);
                if (part[3] == 0) {
                    s.logs().counts(5, 0, finallies);
                } else {
                    s.logs(part[3]).counts(6, 1, finallies).noFault();
                }
            }
        }
        // A fault that a CATCH part throws is thrown out of its TRY, whatever parts stand behind it.
        script().add(TRY).add(COUNT, 0, 0).add(CATCH, 3).add(THROW, 1).add(CATCH, 9).add(NOTE, 0).add(CATCH, 1).add(NOTE, 0).add(END)
            .runs(9).logs().counts(3, 1, 0);
    }

    /** How a TRY is left: {its first part's step, its CATCH part's step}; -1 for none. */
    private static final int[][] HOW = {{NOTE, -1}, {LEAVE, -1}, {RETURN, -1}, {COUNT, -1}, {THROW, NOTE}, {THROW, LEAVE}, {THROW, RETURN},
        {THROW, AGAIN}, {THROW, THROW}, {THROW, COUNT}};

    /** Twice over: a TRY that is left so, a NOTE of dial 1 behind it; a NOTE of dial 2 behind all. */
    private static Script leftSo(int[] how, int inFinally) {
        Script s = script().add(SET, 1, 8).add(SET, 2, 16).add(SET, 3, 24).runs(0).clear();
        s.add(LOOP, 2).add(TRY).add(how[0], 0, 5).add(CATCH, 9);
        if (how[1] >= 0) {
            s.add(how[1], 0, 5);
        }
        return s.add(FINALLY).add(inFinally, 3).add(END).add(NOTE, 1).add(END).add(NOTE, 2);
    }

    private static void finallyHoweverLeft() {
        checks.sentence("Then, however these were left (at their end, by LEAVE, by RETURN, by a fault, caught or not), "
            + "its FINALLY part is done, if there is one.");
        checks.sentence("else it goes on as it did: behind END, or with that LEAVE, RETURN, fault.");
        double[][] logs = {{0, 3, 1, 0, 3, 1, 2}, {3, 2}, {3}, {3}, {0, 3, 1, 0, 3, 1, 2}, {3, 2}, {3}, {3}, {3}, {3}};
        int[] due = {0, 0, 0, 3, 0, 0, 0, 9, 9, 3};
        int[] caught = {0, 0, 0, 0, 2, 1, 1, 1, 1, 1};
        int[] places = {-1, -1, -1, 2, -1, -1, -1, 2, 4, 4};
        for (int i = 0; i < HOW.length; i++) {
            Script s = leftSo(HOW[i], NOTE).runs(due[i]).logs(logs[i]);
            checks.due("count(4)", s.x.count(4), caught[i]);
            checks.due("count(5)", s.x.count(5), logs[i].length > 3 ? 2 : 1);
            checks.due("fault(1)", s.x.fault(1), places[i]);
        }
    }

    private static void finallyThatThrows() {
        checks.sentence("If a fault is thrown out of that, this one goes on, and what went on before is forgotten;");
        for (int[] how : HOW) {
            Script s = leftSo(how, THROW);
            int place = how[1] < 0 ? 5 : 6;
            s.runs(9).faults(9, place, 4, 3, 0, place);
            checks.due("count(5)", s.x.count(5), 1);
            // The same, caught around it: it goes on behind that, and nothing of what went on before does.
            s = script().choose(1).add(LOOP, 2).add(TRY).add(how[0], 0, 5).add(CATCH, 9);
            if (how[1] >= 0) {
                s.add(how[1], 0, 5);
            }
            s.add(FINALLY).add(THROW, 77).add(END).add(END);
            s.choose(0).add(LOOP, 2).add(TRY).add(CALL, 1).add(CATCH, 9).add(SET, 4, 8).add(NOTE, 4).add(END).add(END).add(NOTE, 4).runs(0);
            checks.due("the last of the log", s.x.log(s.x.count(3) - 1), 1.0);
            checks.due("count(5)", s.x.count(5), 2);
            s.noFault();
        }
        // In one routine, so that a LEAVE or a RETURN could still go on, were it not forgotten.
        for (int left : new int[] {LEAVE, RETURN}) {
            script().add(LOOP, 2).add(TRY).add(TRY).add(left).add(FINALLY).add(THROW, 1).add(END).add(CATCH, 9).add(NOTE, 0).add(END)
                .add(NOTE, 0).add(END).add(NOTE, 0).runs(0).logs(0, 0, 0, 0, 0).counts(1 + 2 * 7 + 1, 2, 2);
        }
    }

    private static void finallyOfNestedTries() {
        // Six of them, the innermost first, for each way to leave them all at once.
        int[][] ways = {{RETURN, 0}, {THROW, 9}, {COUNT, 3}};
        for (int[] way : ways) {
            Script s = script();
            for (int i = 0; i < 6; i++) {
                s.add(TRY);
            }
            s.add(way[0], 1, 5);
            for (int i = 1; i <= 6; i++) {
                s.add(FINALLY).add(SET, 0, 8 * i).add(NOTE, 0).add(END);
            }
            s.add(NOTE, 0).runs(way[1]).logs(1, 2, 3, 4, 5, 6).counts(7 + 12, 0, 6);
        }
        // LEAVE goes through those within its LOOP alone.
        Script s = script().add(TRY).add(LOOP, 3).add(TRY).add(TRY).add(LEAVE);
        s.add(FINALLY).add(NOTE, 0).add(END).add(FINALLY).add(NOTE, 0).add(END).add(END).add(SET, 0, 8).add(FINALLY).add(NOTE, 0).add(END);
        s.runs(0).logs(0, 0, 1).counts(10, 0, 3);
        // A FINALLY part within a FINALLY part.
        s = script().add(TRY).add(FINALLY).add(TRY).add(FINALLY).add(TRY).add(FINALLY).add(NOTE, 0).add(END).add(END).add(END);
        s.runs(0).logs(0).counts(4, 0, 3);
    }

    private static void loops() {
        checks.sentence("LOOP a: a times over:");
        for (int times = 0; times <= 6; times++) {
            Script s = script().add(LOOP, times).add(NOTE, 0).add(END).add(NOTE, 0).runs(0).counts(2 + 2 * times, 0, 0);
            checks.due("count(3)", s.x.count(3), times + 1);
            s = script().add(LOOP, times).add(LOOP, 3).add(NOTE, 0).add(END).add(END).runs(0).counts(1 + 8 * times, 0, 0);
            checks.due("count(3)", s.x.count(3), 3 * times);
        }
        // How often is told by the step, once and for all: the block can't change it.
        script().add(LOOP, 2).add(LOOP, 2).add(SET, 0, 8).add(NOTE, 0).add(END).add(END).runs(0).logs(1, 1, 1, 1);
    }

    private static void leaves() {
        checks.sentence("LEAVE: the innermost LOOP around it is left, it goes on behind its END.");
        script().add(LOOP, 6).add(LEAVE).add(NOTE, 0).add(END).add(NOTE, 1).runs(0).logs(0).counts(4, 0, 0);
        // In the third round, by an IF that is so then.
        script().add(SET, 1, 16).add(SET, 2, 8).add(LOOP, 6).add(IF, 0, 1, 1).add(LEAVE).add(END).add(FINE, 0, 0, 2).add(NOTE, 0).add(END)
            .add(NOTE, 1).runs(0).logs(1, 2, 2).counts(3 + 2 * 4 + 3 + 1, 0, 0);
        // The outer LOOP goes on with its next round.
        script().add(LOOP, 2).add(LOOP, 6).add(LEAVE).add(END).add(NOTE, 0).add(END).runs(0).logs(0, 0).counts(1 + 2 * 5, 0, 0);
        // Out of a TRY's first part and out of its CATCH part, out of four blocks at once.
        script().add(LOOP, 6).add(TRY).add(IF, 0, 1, 0).add(TRY).add(IF, 0, 1, 0).add(LEAVE).add(END).add(END).add(END).add(END)
            .add(NOTE, 0).add(END).add(SET, 0, 8).add(NOTE, 0).runs(0).logs(1).counts(9, 0, 0);
        script().add(LOOP, 6).add(TRY).add(THROW, 1).add(CATCH, 9).add(LEAVE).add(END).add(NOTE, 0).add(END).runs(0).logs().counts(5, 1, 0).noFault();
        // A LOOP within a FINALLY part is left, and what goes on is not.
        script().add(TRY).add(THROW, 1).add(FINALLY).add(LOOP, 6).add(LEAVE).add(END).add(NOTE, 0).add(END).runs(9).logs(0).counts(6, 0, 1);
    }

    private static void ifs() {
        checks.sentence("IF: the block is done if it is so.");
        // By columns: below, like, not like, not below.
        double[][] pairs = {{0, 0}, {-0.0, 0.0}, {0.0, -0.0}, {BELOW_ONE, 1}, {1, BELOW_ONE}, {1, 1}, {-1, -BELOW_ONE}, {-Double.MIN_VALUE, 0},
            {0, Double.MIN_VALUE}, {1e15, 1e15}, {999999999999999.875, 1e15}, {-1e15, 1e15}, {1e15, -1e15}, {0.125, 0}};
        boolean[] below = {false, false, false, true, false, false, true, true, true, false, true, true, false, false};
        boolean[] like = {true, true, true, false, false, true, false, false, false, true, false, false, false, false};
        for (int i = 0; i < pairs.length; i++) {
            boolean[] due = {below[i], like[i], !like[i], !below[i]};
            for (int how = 0; how < 4; how++) {
                Script s = script();
                s.load(0, pairs[i][0]);
                s.load(1, pairs[i][1]);
                s.add(IF, 0, how, 1).add(NOTE, 2).add(END).runs(0).counts(due[how] ? 2 : 1, 0, 0);
                checks.due("count(3) of IF " + pairs[i][0] + ", " + how + ", " + pairs[i][1], s.x.count(3), due[how] ? 1 : 0);
            }
        }
        // A dial is like itself; the first and the last dial may stand on either side.
        for (int how = 0; how < 4; how++) {
            boolean so = how == 1 || how == 3;
            script().add(IF, 7, how, 7).add(THROW, 1).add(END).runs(so ? 9 : 0);
        }
        script().add(SET, 7, 8).add(IF, 0, 0, 7).add(THROW, 1).add(END).runs(9);
        script().add(SET, 7, 8).add(IF, 7, 0, 0).add(THROW, 1).add(END).runs(0);
        // What stands behind the block is done in either case.
        script().add(IF, 0, 2, 0).add(IF, 0, 1, 0).add(THROW, 1).add(END).add(END).add(NOTE, 0).runs(0).logs(0).counts(2, 0, 0);
    }

    private static void returns() {
        checks.sentence("RETURN: the routine is over.");
        script().add(RETURN).add(THROW, 1).runs(0).counts(1, 0, 0).noFault();
        // Out of six blocks, without a FINALLY part.
        Script s = script().add(LOOP, 2).add(IF, 0, 1, 0).add(TRY).add(THROW, 1).add(CATCH, 9).add(LOOP, 2).add(IF, 0, 1, 0).add(TRY).add(RETURN);
        for (int i = 0; i < 6; i++) {
            s.add(END);
        }
        s.add(NOTE, 0).runs(0).logs().counts(10, 1, 0).noFault();
        // Of a called routine, that one alone.
        s = script().choose(1).add(LOOP, 2).add(TRY).add(RETURN).add(FINALLY).add(NOTE, 0).add(END).add(END).add(THROW, 1);
        s.choose(0).add(LOOP, 2).add(CALL, 1).add(END).add(SET, 0, 8).add(NOTE, 0).runs(0).logs(0, 0, 1).counts(1 + 2 * 7 + 2, 0, 2);
    }

    private static void openCalls() {
        checks.sentence("CALL a: TIRED, if routine a has an open block or 4 CALLS are being done already;");
        int[][] blocks = {{TRY, 0, 0, 0}, {LOOP, 0, 0, 0}, {IF, 0, 2, 0}};
        for (int[] block : blocks) {
            for (int r = 1; r <= 3; r++) {
                Script s = script().choose(r).add(NOTE, 0).add(block[0], block[1], block[2], block[3]);
                s.choose(0).add(NOTE, 0).add(CALL, r).add(NOTE, 0).runs(10).logs(0).counts(2, 0, 0).faults(10, 1, 1, 0, 0, 1);
                s.choose(r).add(END).choose(0).runs(0).logs(0, 0, 0);
                // One of two blocks being open is enough; behind a clear none is.
                s.choose(r).add(TRY).add(IF, 0, 1, 0).add(END).choose(0).runs(10).choose(r).clear().choose(0).runs(0).logs(0, 0);
            }
        }
    }

    /** Routine 0 calls itself as long as dial 0 is below dial 1. */
    private static Script callsItself(int times) {
        return script().add(SET, 1, 8 * times).add(SET, 2, 8).runs(0).clear()
            .add(NOTE, 0).add(IF, 0, 0, 1).add(FINE, 0, 0, 2).add(CALL, 0).add(END);
    }

    private static void callsAtOnce() {
        callsItself(0).runs(0).logs(0).counts(2, 0, 0);
        callsItself(3).runs(0).logs(0, 1, 2, 3).counts(14, 0, 0);
        callsItself(4).runs(0).logs(0, 1, 2, 3, 4).counts(18, 0, 0).noFault();
        callsItself(5).runs(10).logs(0, 1, 2, 3, 4).counts(20, 0, 0).faults(10, 3, 1, 0, 0, 3);
        // Through all the routines and back; the fifth CALL stands in routine 0 again.
        Script s = script().choose(1).add(CALL, 2).choose(2).add(CALL, 3).choose(3).add(CALL, 0).choose(0).add(CALL, 1);
        s.runs(10).counts(5, 0, 0).faults(10, 0, 1, 0, 0, 0);
        s.choose(2).runs(10).counts(5, 0, 0).faults(10, 80, 1, 0, 0, 80);
        // The TIRED of the fifth is caught in the routine that the fourth calls, and all of them are over then.
        s = script().add(TRY).add(CALL, 0).add(CATCH, 10).add(TELL).add(END).add(NOTE, 0);
        s.runs(0).logs(10, 1, 1, 0, 0, 0, 0, 0, 0).counts(2 * 5 + 1 + 5, 1, 0);
    }

    /** What may stand around a CALL, with what comes before it: in a LOOP, an IF, each part of a TRY. */
    private static final int[][][] AROUND = {{{LOOP, 1, 0, 0}}, {{IF, 3, 1, 3}}, {{TRY, 0, 0, 0}}, {{TRY, 0, 0, 0}, {THROW, 1, 0, 0}, {CATCH, 9, 0, 0}},
        {{TRY, 0, 0, 0}, {FINALLY, 0, 0, 0}}, {{LOOP, 1, 0, 0}, {TRY, 0, 0, 0}, {FINALLY, 0, 0, 0}, {LOOP, 1, 0, 0}}};

    private static void callsWithinBlocks() {
        for (int[][] around : AROUND) {
            for (int times = 3; times <= 5; times++) {
                // Routine 0 calls itself, within these, as long as dial 0 is below dial 1.
                Script s = script().add(SET, 1, 8 * times).add(SET, 2, 8).runs(0).clear().add(IF, 0, 0, 1).add(FINE, 0, 0, 2);
                for (int[] step : around) {
                    s.add(step[0], step[1], step[2], step[3]);
                }
                int place = s.x.count(0);
                s.add(CALL, 0);
                while (s.x.count(1) > 0) {
                    s.add(END);
                }
                s.runs(times <= 4 ? 0 : 10);
                checks.due("fault(1)", s.x.fault(1), times <= 4 ? -1 : place);
                checks.due("dial(0)", s.x.dial(0), (double) times);
            }
        }
    }

    private static void callsThatAreOver() {
        checks.sentence("else that routine's steps are done, and when it is over (behind its last step, or by RETURN) it goes on behind the CALL;");
        script().add(CALL, 1).add(NOTE, 0).runs(0).logs(0).counts(2, 0, 0);
        // Six times four CALLS at once, each over behind its last step, by RETURN, or by a fault.
        int[][] ends = {{NOTE, 0, 0}, {RETURN, 0, 0}, {THROW, 0, 9}};
        for (int[] end : ends) {
            Script s = script().choose(3).add(end[0], end[1]).choose(2).add(CALL, 3).choose(1).add(CALL, 2);
            s.choose(0).add(LOOP, 6).add(TRY).add(CALL, 1).add(CATCH, 9).add(END).add(END).runs(0);
            checks.due("count(2)", s.x.count(2), 1 + 6 * 6);
            checks.due("count(4)", s.x.count(4), end[2] == 9 ? 6 : 0);
            // And another four behind all that: the run is not tired of them.
            s.add(CALL, 1).runs(end[2]);
            checks.due("count(2)", s.x.count(2), 1 + 6 * 6 + 4);
        }
        // Dials and rows are the same for all routines.
        Script s = script().choose(1).add(SET, 3, 8).add(MAKE, 9, 3).choose(0).add(CALL, 1).add(NOTE, 3).add(COUNT, 9, 3).runs(0).logs(1);
        checks.due("size(9)", s.x.size(9), 1);
    }

    private static void faultsOfCalls() {
        checks.sentence("a fault that is thrown out of the routine goes on as if CALL had thrown it (its PLACE stays).");
        Script s = script().choose(2).add(NOTE, 0).add(NOTE, 0).add(THROW, 6).add(NOTE, 0).choose(1).add(CALL, 2).add(NOTE, 0);
        s.choose(0).add(CALL, 1).add(NOTE, 0).runs(9).logs(0, 0).counts(5, 0, 0).faults(9, 82, 7, 6, 0, 82);
        s.choose(0).clear().add(TRY).add(CALL, 1).add(NOTE, 0).add(CATCH, 9).add(TELL).add(FINALLY).add(NOTE, 0).add(END);
        s.runs(0).logs(0, 0, 9, 82, 7, 0, 0).counts(8, 1, 1).noFault();
        // A CATCH part of the caller is none of the called routine: there the step is refused.
        s.choose(3);
        checks.due("TELL in a routine that a CATCH part calls", s.x.step(TELL, 0, 0, 0), -2);
    }

    private static void logOfARun() {
        checks.sentence("The LOG is empty at the beginning of each run.");
        Script s = script().choose(1).add(NOTE, 0).choose(0).add(SET, 0, 8).add(NOTE, 0).add(CALL, 1).runs(0).logs(1, 1).runs(0).logs(1, 1);
        s.choose(2).runs(0).logs();
        s.choose(0).add(THROW, 1).runs(9).logs(1, 1).choose(2).add(TRY).runs(-1).logs(1, 1);
        checks.sentence("NOTE: the dial's double is appended to the LOG.");
        s = script().add(SET, 7, -1).add(NOTE, 7).add(SET, 7, 1).add(NOTE, 7).add(NOTE, 0).runs(0).logs(-0.125, 0.125, 0);
    }

    private static void longestLog() {
        // 200 NOTEs less what the LOOP counts, and as many TELLs as there can be.
        Script s = script().add(LOOP, 6);
        for (int i = 0; i < 38; i++) {
            s.add(NOTE, 0);
        }
        s.add(END).runs(10).counts(200, 0, 0);
        checks.due("count(3)", s.x.count(3), 193);
        s = script().add(TRY).add(THROW, 99).add(CATCH, 9).add(LOOP, 6);
        for (int i = 0; i < 34; i++) {
            s.add(TELL);
        }
        s.add(END).add(END).runs(10).counts(200, 1, 0);
        checks.due("count(3)", s.x.count(3), 4 * 191);
        double[] told = {9, 1, 100, 0};
        for (int i : new int[] {0, 1, 2, 3, 396, 397, 398, 399, 760, 761, 762, 763}) {
            checks.due("log(" + i + ")", s.x.log(i), told[i % 4]);
        }
        checks.due("log(764)", s.x.log(764), 0.0);
    }

    private static void whatStays() {
        checks.sentence("Dials and rows stay as a run left them.");
        Script s = script().add(SET, 0, 8).add(MAKE, 17, 0).add(FIT, 17, 1).add(PUT, 17, 1, 0).add(SET, 7, 9).add(THROW, 1).runs(9);
        String left = stateOf(s.x);
        s.clear().runs(0).choose(1).add(TRY).runs(-1).clear().add(NOTE, 7).runs(0).logs(1.125);
        checks.due("whether dials and rows are as the run left them", stateOf(s.x).equals(left), true);
        checks.due("dial(7)", s.x.dial(7), 1.125);
        checks.due("size(17)", s.x.size(17), 1);
        checks.due("value(17, 0)", s.x.value(17, 0), 1.0);
    }
}
