/** The sentences about faults: kinds, PLACE, NUMBER, EARLIER ones, WEIGHT, and THROW, AGAIN, WRAP, TELL. */
public final class FaultEdgesTest implements Steps {
    private static final Checks checks = new Checks("edges of faults");
    // By kind: the weight of a fault that has no NUMBER and no EARLIER one; -1 where no fault is of that kind.
    private static final int[] WEIGHTS = {-1, -1, -1, 11, 1, 3, -1, 101, 106, 1, 1, -1};

    public static void main(String[] args) {
        kinds();
        underOwn();
        places();
        placesThatStay();
        numbers();
        earlierOnes();
        weights();
        weightsOfWrapped();
        greatestWeight();
        throwsOwn();
        throwsAgain();
        wrapsAtMostFive();
        wrapsAcrossRoutines();
        tells();
        innermostCatchPart();
        checks.end();
    }

    private static Script script() {
        return new Script(checks);
    }

    /** One step that throws a fault of that kind: dial 6 is -1, dial 7 is 17, row 9 has no places, routine 3 has an open block. */
    private static Script addThrowing(Script s, int kind) {
        switch (kind) {
            case 3: return s.add(COUNT, 8, 5);
            case 4: return s.add(GET, 9, 5, 5);
            case 5: return s.add(MAKE, 8, 6);
            case 7: return s.add(WHOLE, 3, 6, 5);
            case 8: return s.add(MAKE, 8, 7);
            case 9: return s.add(THROW, 0);
            default: return s.add(CALL, 3);
        }
    }

    private static Script ready() {
        return script().add(SET, 6, -8).add(SET, 7, 136).add(MAKE, 9, 0).runs(0).clear().choose(3).add(TRY).choose(0);
    }

    private static final int[] THROWN = {3, 4, 5, 7, 8, 9, 10};

    private static void kinds() {
        checks.sentence("each kind is UNDER itself and under those that it stands below: 1 FAULT; 2 ROW FAULT, below FAULT; 3 MISSING, 4 PLACE, 5 SIZE, each below ROW FAULT; 6 NUMBER FAULT, below FAULT; "
            + "7 ZERO, 8 RANGE, each below NUMBER FAULT; 9 OWN, below FAULT; 10 TIRED, below FAULT; 11 WRAPPED, below OWN.");
        int[] above = {0, 0, 1, 2, 2, 2, 1, 6, 6, 1, 1, 9};
        for (int kind : THROWN) {
            for (int by = 1; by <= 11; by++) {
                boolean under = by == kind || by == above[kind] || by == 1;
                Script s = addThrowing(ready().add(TRY), kind).add(CATCH, by).add(TELL).add(END).runs(under ? 0 : kind);
                checks.due("count(4), kind " + kind + " by CATCH " + by, s.x.count(4), under ? 1 : 0);
                checks.due("log(0)", s.x.log(0), under ? kind : 0.0);
            }
        }
    }

    private static void underOwn() {
        checks.sentence("(So what is UNDER 9 is 9 and 11.)");
        for (int by = 1; by <= 11; by++) {
            boolean under = by == 1 || by == 9 || by == 11;
            Script s = script().add(TRY).add(TRY).add(COUNT, 0, 0).add(CATCH, 1).add(WRAP, 0).add(END).add(CATCH, by).add(TELL).add(END);
            s.runs(under ? 0 : 11);
            checks.due("count(4) of WRAPPED by CATCH " + by, s.x.count(4), under ? 2 : 1);
        }
        for (int kind : THROWN) {
            Script s = addThrowing(ready().add(TRY), kind).add(CATCH, 9).add(END).runs(kind == 9 ? 0 : kind);
            checks.due("count(4) of kind " + kind + " by CATCH 9", s.x.count(4), kind == 9 ? 1 : 0);
        }
        checks.sentence("Faults are of kinds 3, 4, 5, 7, 8, 9, 10, 11.");
        for (int kind : THROWN) {
            addThrowing(ready(), kind).runs(kind).faults(kind, 0, WEIGHTS[kind], 0, 0, 0);
        }
        script().add(TRY).add(COUNT, 0, 0).add(CATCH, 1).add(WRAP, 0).add(END).runs(11).faults(11, 3, 24, 0, 1, 1);
    }

    private static void places() {
        checks.sentence("Each has a PLACE: 40 times the routine and the number of the step that threw it first;");
        for (int r = 0; r < 3; r++) {
            for (int kind : THROWN) {
                for (int number : new int[] {0, 1, 39}) {
                    Script s = ready().choose(r);
                    for (int i = 0; i < number; i++) {
                        s.add(NOTE, 0);
                    }
                    int place = 40 * r + number;
                    addThrowing(s, kind).runs(kind).faults(kind, place, WEIGHTS[kind], 0, 0, place);
                }
            }
        }
        Script s = script().choose(3);
        for (int i = 0; i < 39; i++) {
            s.add(NOTE, 0);
        }
        s.add(THROW, 0).runs(9).faults(9, 159, 1, 0, 0, 159);
    }

    private static void placesThatStay() {
        // Thrown again, through the CALL, through a FINALLY part, and again by another routine: the place of the first.
        Script s = script().choose(3).add(NOTE, 0).add(NOTE, 0).add(TRY).add(COUNT, 0, 0).add(CATCH, 1).add(AGAIN).add(FINALLY).add(NOTE, 0).add(END);
        s.choose(1).add(TRY).add(CALL, 3).add(CATCH, 3).add(TELL).add(AGAIN).add(END);
        s.choose(0).add(TRY).add(CALL, 1).add(CATCH, 2).add(TELL).add(AGAIN).add(END);
        s.runs(3).logs(0, 0, 0, 3, 123, 11, 0, 3, 123, 11, 0).faults(3, 123, 11, 0, 0, 123);
        // WRAPPED has the place of its WRAP, and its EARLIER one keeps its own.
        s = script().choose(3).add(NOTE, 0).add(THROW, 1);
        s.choose(2).add(TRY).add(CALL, 3).add(CATCH, 9).add(TELL).add(WRAP, 2).add(END);
        s.choose(0).add(TRY).add(CALL, 2).add(CATCH, 9).add(TELL).add(AGAIN).add(END);
        s.runs(11).logs(0, 9, 121, 2, 0, 11, 84, 10, 1).faults(11, 84, 10, 2, 1, 121);
    }

    private static void numbers() {
        checks.sentence("OWN and WRAPPED have a NUMBER;");
        for (int number : new int[] {0, 1, 98, 99}) {
            script().add(THROW, number).runs(9).faults(9, 0, 1 + number, number, 0, 0);
            // A WRAPPED's NUMBER is its own, not that of its EARLIER one.
            script().add(TRY).add(THROW, 99 - number).add(CATCH, 1).add(WRAP, number).add(END)
                .runs(11).faults(11, 3, 2 * (1 + 1 + 99 - number + number), number, 1, 1);
        }
        for (int kind : THROWN) {
            Script s = addThrowing(ready(), kind).runs(kind);
            checks.due("fault(3) of kind " + kind, s.x.fault(3), 0);
        }
    }

    private static void earlierOnes() {
        checks.sentence("a WRAPPED has one EARLIER fault (its own EARLIER one is one, too, and so on: the fault's EARLIER ones).");
        // Each of these TRYs wraps once more; the one around them tells.
        for (int wraps = 0; wraps <= 5; wraps++) {
            Script s = wrapped(wraps, 1);
            s.add(CATCH, 1).add(TELL).add(AGAIN).add(END);
            int weight = 1;
            for (int i = 1; i <= wraps; i++) {
                weight = 2 * (1 + weight + i);
            }
            int kind = wraps == 0 ? 9 : 11;
            int place = wraps == 0 ? 1 : 4 * wraps;
            s.runs(kind).logs(kind, place, weight, wraps).faults(kind, place, weight, wraps, wraps, wraps + 1);
        }
    }

    /** Inside of an open TRY: OWN with NUMBER 0, wrapped so many times, with the NUMBERs step, 2 * step and so on. */
    private static Script wrapped(int wraps, int step) {
        Script s = script().add(TRY);
        for (int i = 0; i < wraps; i++) {
            s.add(TRY);
        }
        s.add(THROW, 0);
        for (int i = 1; i <= wraps; i++) {
            s.add(CATCH, 1).add(WRAP, i * step).add(END);
        }
        return s;
    }

    private static void weights() {
        checks.sentence("the plain weight of a fault is 1, and, if it has an EARLIER one, that one's WEIGHT. PLACE, TIRED: the plain weight. "
            + "MISSING: the plain weight and 10. SIZE: 3 times the plain weight. ZERO: the plain weight and 100. RANGE: the plain weight and 105. "
            + "OWN: the plain weight and its NUMBER.");
        for (int kind : THROWN) {
            Script s = addThrowing(ready(), kind).runs(kind);
            checks.due("fault(2) of kind " + kind, s.x.fault(2), WEIGHTS[kind]);
            s = addThrowing(ready().add(TRY), kind).add(CATCH, 1).add(TELL).add(END).runs(0).logs(kind, 1, WEIGHTS[kind], 0);
        }
        for (int number : new int[] {0, 1, 99}) {
            Script s = script().add(THROW, number).runs(9);
            checks.due("fault(2) of OWN " + number, s.x.fault(2), 1 + number);
        }
    }

    private static void weightsOfWrapped() {
        checks.sentence("WRAPPED: twice what the plain weight and its NUMBER are together.");
        for (int kind : THROWN) {
            for (int number : new int[] {0, 1, 99}) {
                int weight = 2 * (1 + WEIGHTS[kind] + number);
                addThrowing(ready().add(TRY), kind).add(CATCH, 1).add(WRAP, number).add(END).runs(11).faults(11, 3, weight, number, 1, 1);
            }
        }
    }

    private static void greatestWeight() {
        checks.sentence("WEIGHT (an int that wraps): the plain weight of a fault is 1,");
        // The greatest that there can be: RANGE, 106, wrapped five times with 99; it stays far below the end of int.
        Script s = ready();
        for (int i = 0; i < 6; i++) {
            s.add(TRY);
        }
        addThrowing(s, 8);
        for (int i = 0; i < 5; i++) {
            s.add(CATCH, 1).add(WRAP, 99).add(END);
        }
        s.add(CATCH, 1).add(TELL).add(AGAIN).add(END).runs(11).logs(11, 20, 9592, 5).faults(11, 20, 9592, 99, 5, 6);
    }

    private static void throwsOwn() {
        checks.sentence("THROW a: throws OWN, NUMBER a.");
        for (int number = 0; number <= 99; number++) {
            script().add(THROW, number).add(NOTE, 0).runs(9).logs().counts(1, 0, 0).faults(9, 0, 1 + number, number, 0, 0);
        }
    }

    private static void throwsAgain() {
        checks.sentence("AGAIN throws the fault that is CAUGHT there, as it is.");
        for (int kind : THROWN) {
            addThrowing(ready().add(TRY), kind).add(CATCH, 1).add(AGAIN).add(END).runs(kind)
                .counts(3, 1, 0).faults(kind, 1, WEIGHTS[kind], 0, 0, 1);
        }
        // Six times over, each part around the one before: it is CAUGHT six times and stays as it is.
        Script s = script();
        for (int i = 0; i < 6; i++) {
            s.add(TRY);
        }
        s.add(THROW, 7);
        for (int i = 0; i < 6; i++) {
            s.add(CATCH, 9).add(AGAIN).add(END);
        }
        s.runs(9).counts(13, 6, 0).faults(9, 6, 8, 7, 0, 6);
        // With five EARLIER ones, too.
        wrapped(5, 1).add(CATCH, 11).add(AGAIN).add(END).runs(11).counts(13, 6, 0);
    }

    private static void wrapsAtMostFive() {
        checks.sentence("WRAP a throws TIRED, if that fault has 5 EARLIER ones, else WRAPPED, NUMBER a, that fault being its EARLIER one.");
        for (int wraps = 0; wraps <= 5; wraps++) {
            int weight = 1;
            for (int i = 1; i <= wraps; i++) {
                weight = 2 * (1 + weight + 9 * i);
            }
            Script s = wrapped(wraps, 9).add(CATCH, 1).add(NOTE, 0).add(WRAP, 50).add(END);
            int place = 4 * wraps + 4;
            if (wraps < 5) {
                s.runs(11).faults(11, place, 2 * (1 + weight + 50), 50, wraps + 1, wraps + 1);
            } else {
                s.runs(10).faults(10, place, 1, 0, 0, place);
            }
            s.counts(4 + 2 * wraps, wraps + 1, 0);
        }
        // That TIRED is a new fault without EARLIER ones, so it may be wrapped itself.
        Script s = script().choose(1).add(TRY).add(TRY).add(TRY).add(TRY).add(TRY).add(TRY).add(THROW, 0);
        for (int i = 0; i < 6; i++) {
            s.add(CATCH, 1).add(WRAP, 0).add(END);
        }
        s.choose(0).add(TRY).add(CALL, 1).add(CATCH, 10).add(TELL).add(WRAP, 3).add(END);
        s.runs(11).logs(10, 63, 1, 0).faults(11, 4, 2 * (1 + 1 + 3), 3, 1, 63);
    }

    private static void wrapsAcrossRoutines() {
        // Three in routine 2, two in routine 1: five. A sixth in routine 0 is too much.
        Script s = script().choose(2).add(TRY).add(TRY).add(TRY).add(THROW, 0);
        for (int i = 0; i < 3; i++) {
            s.add(CATCH, 9).add(WRAP, 0).add(END);
        }
        s.choose(1).add(TRY).add(TRY).add(CALL, 2).add(CATCH, 11).add(WRAP, 0).add(END).add(CATCH, 11).add(WRAP, 0).add(END);
        // 1, then twice one more each time: 4, 10, 22, 46, 94.
        s.runs(11).faults(11, 47, 94, 0, 5, 83);
        s.choose(0).add(TRY).add(CALL, 1).add(CATCH, 11).add(TELL).add(WRAP, 0).add(END);
        s.runs(10).logs(11, 47, 94, 5).faults(10, 4, 1, 0, 0, 4);
    }

    private static void tells() {
        checks.sentence("TELL appends four numbers of it to the LOG: its kind, its PLACE, its WEIGHT, how many EARLIER ones it has.");
        for (int kind : THROWN) {
            addThrowing(ready().add(NOTE, 6).add(TRY), kind).add(CATCH, 1).add(TELL).add(TELL).add(NOTE, 7).add(END).runs(0)
                .logs(-1, kind, 2, WEIGHTS[kind], 0, kind, 2, WEIGHTS[kind], 0, 17);
        }
        wrapped(1, 5).add(CATCH, 1).add(TELL).add(END).runs(0).logs(11, 4, 14, 1).noFault();
    }

    private static void innermostCatchPart() {
        checks.sentence("In a CATCH part (the innermost one around it):");
        // OWN 1 is caught outside, OWN 2 inside: inside it is 2; before, behind and in the inner FINALLY part it is 1.
        script().add(TRY).add(THROW, 1).add(CATCH, 9).add(TELL)
            .add(TRY).add(TELL).add(THROW, 2).add(CATCH, 9).add(TELL).add(FINALLY).add(TELL).add(END)
            .add(TELL).add(END).runs(0).logs(9, 1, 2, 0, 9, 1, 2, 0, 9, 6, 3, 0, 9, 1, 2, 0, 9, 1, 2, 0);
        // Through LOOP and IF blocks.
        script().add(TRY).add(THROW, 1).add(CATCH, 9).add(LOOP, 2).add(IF, 0, 1, 0).add(TELL).add(END).add(END).add(END)
            .runs(0).logs(9, 1, 2, 0, 9, 1, 2, 0);
        // What a FINALLY part throws again, and wraps, is the outer one, too.
        Script s = script().add(TRY).add(THROW, 1).add(CATCH, 9).add(TRY).add(THROW, 2).add(CATCH, 9).add(FINALLY).add(AGAIN).add(END).add(END);
        s.runs(9).faults(9, 1, 2, 1, 0, 1);
        s = script().add(TRY).add(THROW, 1).add(CATCH, 9).add(TRY).add(THROW, 2).add(CATCH, 9).add(FINALLY).add(WRAP, 3).add(END).add(END);
        s.runs(11).faults(11, 7, 12, 3, 1, 1);
        // A second part of the same TRY has the fault that it caught itself.
        s = script().add(LOOP, 2).add(TRY).add(IF, 0, 1, 1).add(THROW, 4).add(END).add(COUNT, 0, 0)
            .add(CATCH, 9).add(TELL).add(SET, 1, 8).add(CATCH, 3).add(TELL).add(END).add(END);
        s.runs(0).logs(9, 3, 5, 0, 3, 5, 11, 0);
    }
}
