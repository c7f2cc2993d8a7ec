/** Promise 5: how a run goes through tries, loops, calls, and where it gets tired. */
public final class RunTest implements Steps {
    private static final Checks checks = new Checks("promise 5");

    public static void main(String[] args) {
        plainRuns();
        openBlock();
        catchesByKind();
        catchesInOrder();
        finallyIsDone();
        finallyWins();
        nestedCatches();
        wrapsAndAgain();
        loops();
        ifs();
        calls();
        callsAreLimited();
        deepest();
        tired();
        tiredInParts();
        rowsAndFaults();
        checks.end();
    }

    private static Script script() {
        return new Script(checks);
    }

    private static void plainRuns() {
        script().runs(0).logs().counts(0, 0, 0).noFault();
        script().add(SET, 1, -12).add(NOTE, 1).add(RETURN).add(NOTE, 1).runs(0)
            .logs(-1.5).counts(3, 0, 0).noFault();
        // A fault ends the run; what was done before it stays, and the log is new with each run.
        Script s = script().add(NOTE, 0).add(SET, 0, 8).add(THROW, 99).add(SET, 0, 16);
        s.runs(9).logs(0).counts(3, 0, 0).faults(9, 2, 100, 99, 0, 2);
        s.runs(9).logs(1).counts(3, 0, 0);
        s.clear().runs(0).logs().counts(0, 0, 0).noFault();
    }

    private static void openBlock() {
        Script s = script().add(NOTE, 3).add(THROW, 7).runs(9);
        s.add(TRY).runs(-1);
        s.logs(0).counts(2, 0, 0).faults(9, 1, 8, 7, 0, 1);
        s.add(END).runs(9);
        // A routine that has an open block but is not at hand does not matter.
        s.choose(1).add(LOOP, 1).runs(-1);
        s.choose(0).runs(9);
    }

    /** Makes a fault of a kind in the first part of a TRY that has one CATCH. */
    private static Script tryOf(int kind, int catchKind) {
        Script s = script();
        s.add(SET, 1, -8).add(SET, 2, 136).add(MAKE, 9, 0).add(TRY);
        switch (kind) {
            case 3: s.add(COUNT, 8, 3); break;
            case 4: s.add(GET, 9, 0, 3); break;
            case 5: s.add(MAKE, 8, 1); break;
            case 7: s.add(WHOLE, 3, 2, 0); break;
            case 8: s.add(MAKE, 8, 2); break;
            case 9: s.add(THROW, 5); break;
            case 10: s.choose(1).add(TRY).choose(0).add(CALL, 1); break;
            default: s.add(TRY).add(THROW, 5).add(CATCH, 1).add(WRAP, 6).add(END); break;
        }
        return s.add(CATCH, catchKind).add(NOTE, 2).add(END);
    }

    private static void catchesByKind() {
        int[][] under = {{3, 1, 2, 3}, {4, 1, 2, 4}, {5, 1, 2, 5}, {7, 1, 6, 7}, {8, 1, 6, 8}, {9, 1, 9, 9}, {10, 1, 10, 10}, {11, 1, 9, 11}};
        int[] weights = {0, 0, 0, 11, 1, 3, 0, 101, 106, 6, 1, 26};
        for (int[] kinds : under) {
            for (int by = 1; by <= 11; by++) {
                boolean due = by == kinds[1] || by == kinds[2] || by == kinds[3];
                Script s = tryOf(kinds[0], by).runs(due ? 0 : kinds[0]);
                checks.due("count(4), kind " + kinds[0] + " by CATCH " + by, s.x.count(4), (due ? 1 : 0) + (kinds[0] == 11 ? 1 : 0));
                checks.due("count(3), kind " + kinds[0] + " by CATCH " + by, s.x.count(3), due ? 1 : 0);
                checks.due("fault(0)", s.x.fault(0), due ? -1 : kinds[0]);
                checks.due("fault(2), kind " + kinds[0], s.x.fault(2), due ? -1 : weights[kinds[0]]);
            }
        }
    }

    private static void catchesInOrder() {
        // The first part that fits is done, the ones behind it are not, nor the others without a fault.
        script().add(SET, 1, 8).add(SET, 2, 16).add(SET, 3, 24)
            .add(TRY).add(GET, 0, 0, 0).add(NOTE, 0)
            .add(CATCH, 6).add(NOTE, 1)
            .add(CATCH, 2).add(NOTE, 2)
            .add(CATCH, 3).add(NOTE, 3)
            .add(END).add(NOTE, 1).runs(0).logs(2, 1).counts(7, 1, 0);
        script().add(TRY).add(NOTE, 0).add(CATCH, 1).add(THROW, 1).add(END)
            .runs(0).logs(0).counts(2, 0, 0);
        // A fault in a CATCH part is not caught by a part behind it.
        script().add(TRY).add(THROW, 1).add(CATCH, 9).add(THROW, 2)
            .add(CATCH, 1).add(NOTE, 0).add(END).runs(9).logs().counts(3, 1, 0).faults(9, 3, 3, 2, 0, 3);
    }

    private static void finallyIsDone() {
        // At the end of the first part, of a CATCH part, by a fault, by RETURN, by LEAVE.
        script().add(TRY).add(FINALLY).add(NOTE, 0).add(END).runs(0).logs(0).counts(2, 0, 1);
        script().add(TRY).add(THROW, 1).add(CATCH, 1).add(NOTE, 1).add(FINALLY)
            .add(NOTE, 0).add(END).runs(0).logs(0, 0).counts(4, 1, 1);
        script().add(TRY).add(THROW, 1).add(CATCH, 2).add(FINALLY).add(NOTE, 0).add(END)
            .add(NOTE, 0).runs(9).logs(0).counts(3, 0, 1).faults(9, 1, 2, 1, 0, 1);
        script().add(TRY).add(RETURN).add(FINALLY).add(NOTE, 0).add(END)
            .add(NOTE, 0).runs(0).logs(0).counts(3, 0, 1);
        script().add(TRY).add(THROW, 0).add(CATCH, 1).add(RETURN).add(FINALLY)
            .add(NOTE, 0).add(END).add(NOTE, 0).runs(0).logs(0).counts(4, 1, 1);
        script().add(LOOP, 5).add(TRY).add(LEAVE).add(FINALLY).add(NOTE, 0).add(END)
            .add(NOTE, 1).add(END).add(NOTE, 2).runs(0).logs(0, 0).counts(6, 0, 1);
        // Through two of them, the inner one first.
        script().add(SET, 1, 8).add(TRY).add(TRY).add(RETURN).add(FINALLY).add(NOTE, 0)
            .add(END).add(NOTE, 7).add(FINALLY).add(NOTE, 1).add(END).runs(0).logs(0, 1).counts(6, 0, 2);
    }

    private static void finallyWins() {
        script().add(TRY).add(THROW, 1).add(FINALLY).add(THROW, 2).add(END)
            .runs(9).counts(3, 0, 1).faults(9, 3, 3, 2, 0, 3);
        script().add(TRY).add(RETURN).add(FINALLY).add(COUNT, 0, 0).add(END)
            .runs(3).faults(3, 3, 11, 0, 0, 3);
        script().add(LOOP, 3).add(TRY).add(LEAVE).add(FINALLY).add(THROW, 4).add(END)
            .add(END).add(NOTE, 0).runs(9).logs().counts(5, 0, 1);
        // What went on before is forgotten, so once that is caught, nothing goes on.
        script().add(TRY).add(TRY).add(RETURN).add(FINALLY).add(THROW, 4).add(END)
            .add(CATCH, 9).add(END).add(NOTE, 0).runs(0).logs(0).counts(5, 1, 1).noFault();
        // A fault that is caught within the FINALLY part does not stop what goes on.
        script().add(TRY).add(THROW, 1).add(FINALLY)
            .add(TRY).add(COUNT, 0, 0).add(CATCH, 1).add(END)
            .add(LOOP, 2).add(LEAVE).add(END).add(END)
            .runs(9).counts(7, 1, 1).faults(9, 1, 2, 1, 0, 1);
        // What goes on is not thrown by a TRY within the FINALLY part.
        script().add(TRY).add(THROW, 1).add(FINALLY)
            .add(TRY).add(NOTE, 0).add(CATCH, 1).add(NOTE, 0).add(NOTE, 0).add(END).add(END)
            .runs(9).logs(0).counts(4, 0, 1).faults(9, 1, 2, 1, 0, 1);
        // In a FINALLY part the innermost CATCH part is the one around its TRY.
        script().add(TRY).add(THROW, 1).add(CATCH, 1)
            .add(TRY).add(THROW, 2).add(CATCH, 1).add(TELL).add(FINALLY).add(TELL).add(END)
            .add(TELL).add(END).runs(0).logs(9, 4, 3, 0, 9, 1, 2, 0, 9, 1, 2, 0);
    }

    private static void nestedCatches() {
        // An inner TRY that does not catch it leaves it to the outer one, which has its own fault then.
        script().add(TRY).add(TRY).add(THROW, 7).add(CATCH, 2).add(NOTE, 0).add(END)
            .add(NOTE, 0).add(CATCH, 9).add(TELL).add(END).runs(0).logs(9, 2, 8, 0).counts(4, 1, 0);
        // In the first part of an inner TRY the fault is still the outer one's.
        script().add(TRY).add(THROW, 7).add(CATCH, 1).add(TRY).add(TELL).add(AGAIN)
            .add(CATCH, 9).add(TELL).add(END).add(END).runs(0).logs(9, 1, 8, 0, 9, 1, 8, 0).counts(6, 2, 0);
    }

    private static void wrapsAndAgain() {
        // AGAIN throws it as it is, with its place; WRAP throws a new one of its own place.
        script().add(TRY).add(THROW, 7).add(CATCH, 1).add(AGAIN).add(END)
            .runs(9).faults(9, 1, 8, 7, 0, 1);
        script().add(TRY).add(GET, 3, 0, 0).add(CATCH, 1).add(WRAP, 20).add(END)
            .runs(11).faults(11, 3, 64, 20, 1, 1);
        // Five earlier ones are the most: the sixth WRAP throws TIRED.
        for (int wraps = 1; wraps <= 6; wraps++) {
            Script s = script();
            for (int i = 0; i < wraps; i++) {
                s.add(TRY);
            }
            s.add(THROW, 1);
            int weight = 2;
            for (int i = 1; i <= wraps; i++) {
                s.add(CATCH, 1).add(WRAP, i).add(END);
                weight = 2 * (1 + weight + i);
            }
            int place = wraps + 3 * wraps - 1;
            if (wraps <= 5) {
                s.runs(11).faults(11, place, weight, wraps, wraps, wraps);
            } else {
                s.runs(10).faults(10, place, 1, 0, 0, place);
            }
        }
    }

    private static void loops() {
        for (int times = 0; times <= 6; times++) {
            Script s = script().add(SET, 1, 8).add(LOOP, times).add(FINE, 0, 0, 1).add(END).runs(0);
            s.counts(2 + 2 * times, 0, 0);
            checks.due("dial(0)", s.x.dial(0), (double) times);
        }
        // LEAVE leaves the innermost LOOP alone, through an IF.
        script().add(LOOP, 3).add(LOOP, 4).add(IF, 0, 1, 0).add(LEAVE).add(END)
            .add(NOTE, 7).add(END).add(NOTE, 0).add(END).runs(0).logs(0, 0, 0)
            .counts(1 + 3 * (1 + 1 + 1 + 2 + 1), 0, 0);
        // A fault goes out of LOOPs; RETURN does, too.
        script().add(LOOP, 2).add(THROW, 3).add(END).runs(9).counts(3, 0, 0);
        script().add(LOOP, 2).add(RETURN).add(END).add(NOTE, 0).runs(0).logs().counts(3, 0, 0);
        // Each round catches anew.
        script().add(LOOP, 3).add(TRY).add(THROW, 3).add(CATCH, 9).add(FINALLY).add(END)
            .add(END).runs(0).counts(1 + 3 * 3, 3, 3);
    }

    private static void ifs() {
        int[][] dials = {{8, 16}, {8, 8}, {16, 8}, {-8, 0}, {0, -8}};
        boolean[][] due = {{true, false, true, false}, {false, true, false, true}, {false, false, true, true},
            {true, false, true, false}, {false, false, true, true}};
        for (int i = 0; i < dials.length; i++) {
            for (int how = 0; how < 4; how++) {
                Script s = script().add(SET, 5, dials[i][0]).add(SET, 6, dials[i][1])
                    .add(IF, 5, how, 6).add(NOTE, 5).add(END).add(NOTE, 6).runs(0);
                if (due[i][how]) {
                    s.logs(dials[i][0] / 8.0, dials[i][1] / 8.0).counts(5, 0, 0);
                } else {
                    s.logs(dials[i][1] / 8.0).counts(4, 0, 0);
                }
            }
        }
        // -0 is like 0, and not below it.
        Script s = script();
        s.load(0, -0.0);
        s.add(IF, 0, 1, 1).add(THROW, 1).add(END).runs(9).clear();
        s.add(IF, 0, 0, 1).add(THROW, 1).add(END).runs(0).clear();
        s.add(IF, 0, 3, 1).add(THROW, 1).add(END).runs(9);
    }

    private static void calls() {
        // A called routine is over by its end or by RETURN, and goes on behind the CALL.
        Script s = script().choose(1).add(LOOP, 2).add(NOTE, 1).add(RETURN).add(END).add(NOTE, 2);
        s.choose(2).add(SET, 3, 24);
        s.choose(0).add(SET, 1, 8).add(CALL, 1).add(CALL, 2).add(NOTE, 3).runs(0).logs(1, 3)
            .counts(3 + 1 + 4 + 1, 0, 0);
        // A fault keeps its place, is caught around the CALL, and the called one's FINALLY part is done.
        s = script().choose(3).add(NOTE, 0).add(TRY).add(THROW, 4).add(FINALLY).add(NOTE, 0).add(END);
        s.choose(2).add(CALL, 3);
        s.choose(0).add(TRY).add(CALL, 2).add(CATCH, 9).add(TELL).add(WRAP, 1).add(END)
            .runs(11).logs(0, 0, 9, 122, 5, 0).counts(9, 1, 1).faults(11, 4, 14, 1, 1, 122);
        // A routine that is called has a fault of its own CATCH parts alone; an empty one may be called.
        s = script().add(CALL, 1).add(CALL, 3).runs(0).counts(2, 0, 0);
        // An open block: TIRED, thrown by the CALL.
        s.choose(3).add(TRY).choose(0).runs(10).counts(2, 0, 0).faults(10, 1, 1, 0, 0, 1);
        s.choose(3).add(END).choose(0).runs(0).counts(3, 0, 0);
    }

    private static void callsAreLimited() {
        // Routine 0 calls itself: four CALLS are done, the fifth throws.
        script().add(NOTE, 0).add(CALL, 0).runs(10).logs(0, 0, 0, 0, 0).counts(10, 0, 0).faults(10, 1, 1, 0, 0, 1);
        // Behind a CALL that is over there is room again, also where a fault went out of it.
        Script s = script().choose(1).add(CALL, 2).choose(2).add(CALL, 3).choose(3).add(THROW, 8);
        s.choose(0).add(LOOP, 6).add(TRY).add(CALL, 1).add(CATCH, 9).add(END).add(END)
            .runs(0).counts(1 + 6 * 6, 6, 0);
        s = script().choose(1).add(CALL, 2).choose(2).add(CALL, 3).choose(3).add(CALL, 1);
        s.choose(0).add(CALL, 1).runs(10).counts(5, 0, 0).faults(10, 40, 1, 0, 0, 40);
    }

    /** Six blocks in each of five routines that stand open at once, by their CATCH and FINALLY parts. */
    private static void deepest() {
        Script s = script();
        for (int i = 0; i < 6; i++) {
            s.add(TRY).add(FINALLY);
        }
        s.add(CALL, 0);
        for (int i = 0; i < 6; i++) {
            s.add(END);
        }
        s.runs(10).counts(35, 0, 30).faults(10, 12, 1, 0, 0, 12);
        s = script();
        for (int i = 0; i < 6; i++) {
            s.add(TRY).add(THROW, i).add(CATCH, 9);
        }
        s.add(CALL, 0);
        for (int i = 0; i < 6; i++) {
            s.add(END);
        }
        s.runs(10).counts(65, 30, 0).faults(10, 18, 1, 0, 0, 18);
    }

    private static void tired() {
        // The 200th is counted still, the next one throws.
        Script s = script().add(LOOP, 6).add(LOOP, 5).add(NOTE, 0).add(NOTE, 0).add(NOTE, 0)
            .add(NOTE, 0).add(END).add(NOTE, 0).add(NOTE, 0).add(END);
        // 1 + 6 * (1 + 1 + 5 * 5 + 2) = 175
        s.runs(0).counts(175, 0, 0);
        for (int i = 0; i < 25; i++) {
            s.add(NOTE, 0);
        }
        s.runs(0).counts(200, 0, 0);
        checks.due("count(0)", s.x.count(0), 35);
        s.add(SET, 0, 8).add(NOTE, 0).runs(10).counts(200, 0, 0).faults(10, 35, 1, 0, 0, 35);
        checks.due("dial(0) that the tired SET left", s.x.dial(0), 0.0);
        // Rounds are counted, too; one that is not is thrown by its LOOP.
        s = script().add(LOOP, 6).add(LOOP, 6).add(LOOP, 6).add(END).add(END).add(END);
        // 1 and 50 for each outer round, were there no end: the 200th is the innermost LOOP's fifth round.
        s.runs(10).counts(200, 0, 0);
        checks.due("fault(1)", s.x.fault(1), 2);
    }

    private static void tiredInParts() {
        // Loops in the first part that count all the 200.
        Script s = script().add(TRY).add(LOOP, 6).add(LOOP, 6).add(LOOP, 6).add(END).add(END)
            .add(END).add(CATCH, 10).add(CATCH, 1).add(FINALLY).add(END).runs(0);
        s.counts(200, 1, 1).noFault();
        // Behind it every step is tired, END, CATCH and FINALLY are not; each TIRED has its own place.
        s.add(NOTE, 0).runs(10).faults(10, 11, 1, 0, 0, 11);
        s = script().add(TRY).add(LOOP, 6).add(LOOP, 6).add(LOOP, 6).add(END).add(END)
            .add(END).add(CATCH, 10).add(TELL).add(FINALLY).add(NOTE, 0).add(END).runs(10);
        s.logs().counts(200, 1, 1).faults(10, 10, 1, 0, 0, 10);
        // A TRY that is tired itself does nothing else: neither its CATCH nor its FINALLY part.
        s = script().add(TRY).add(LOOP, 6).add(LOOP, 6).add(LOOP, 6).add(END).add(END)
            .add(END).add(CATCH, 10).add(END).add(TRY).add(CATCH, 1).add(FINALLY).add(END);
        s.runs(10).counts(200, 1, 0).faults(10, 9, 1, 0, 0, 9);
        // So are LEAVE, RETURN, IF and CALL.
        int[][] last = {{RETURN, 0, 0, 0}, {CALL, 1, 0, 0}, {IF, 0, 1, 0}, {LOOP, 0, 0, 0}, {THROW, 5, 0, 0}};
        for (int[] step : last) {
            s = script().add(TRY).add(LOOP, 6).add(LOOP, 6).add(LOOP, 6).add(END).add(END)
                .add(END).add(CATCH, 10).add(END).add(step[0], step[1], step[2], step[3]);
            if (step[0] == IF || step[0] == LOOP) {
                s.add(END);
            }
            s.runs(10).counts(200, 1, 0).faults(10, 9, 1, 0, 0, 9);
        }
    }

    private static void rowsAndFaults() {
        // MISSING comes before PLACE, that before a place that holds NONE.
        Script s = script().add(SET, 1, 800).add(GET, 16, 1, 2).runs(3).clear();
        s.add(PUT, 16, 1, 2).runs(3).clear().add(FIT, 16, 1).runs(3).clear();
        s.add(SET, 2, 16).add(MAKE, 16, 2).add(GET, 16, 1, 2).runs(4).clear();
        s.add(PUT, 16, 1, 2).runs(4).clear().add(FIT, 16, 1).runs(4).clear();
        s.add(GET, 16, 0, 2).runs(3).clear().add(PUT, 16, 0, 2).runs(3).clear();
        s.add(FIT, 16, 0).add(PUT, 16, 0, 1).add(GET, 16, 0, 2).runs(0).clear();
        checks.due("dial(2) that was got from the PROBE", s.x.dial(2), 100.0);
        s.add(DROP, 16).add(DROP, 16).runs(0).clear().add(COUNT, 16, 0).runs(3);
        // A step that throws leaves the dial and the row as they were.
        s = script().add(SET, 0, 24).add(MAKE, 8, 0).add(SET, 1, 16).add(SET, 2, 56).add(PUT, 8, 1, 2);
        s.add(SET, 3, 136).add(MAKE, 8, 3).runs(8);
        checks.due("size(8)", s.x.size(8), 3);
        checks.due("value(8, 2)", s.x.value(8, 2), 7.0);
        s.clear().add(SET, 3, -8).add(MAKE, 8, 3).runs(5);
        checks.due("value(8, 2)", s.x.value(8, 2), 7.0);
        s.clear().add(GET, 8, 0, 2).runs(4);
        checks.due("dial(2)", s.x.dial(2), 7.0);
        // -0.9 places are none, 16.9 are 16; the INT of a dial stays at the ends of int.
        s.clear().add(SET, 3, -7).add(MAKE, 8, 3).add(SET, 4, 135).add(MAKE, 9, 4).runs(0);
        checks.due("size(8)", s.x.size(8), 0);
        checks.due("size(9)", s.x.size(9), 16);
        s.load(4, 1e15);
        s.clear().add(MAKE, 9, 4).runs(8).clear().add(GET, 9, 4, 0).runs(4);
        s.load(4, -1e15);
        s.clear().add(MAKE, 9, 4).runs(5).clear().add(PUT, 9, 4, 0).runs(4);
        s.load(4, 4294967296.0);
        s.clear().add(GET, 9, 4, 0).runs(4);
    }
}
