/** Promises 1 to 13, sentence by sentence: what each call answers at its last and its first wrong number. */
public final class FaceEdgesTest implements Steps {
    private static final Checks checks = new Checks("edges of the face");
    private static final int LEAST = Integer.MIN_VALUE;
    private static final int MOST = Integer.MAX_VALUE;

    public static void main(String[] args) {
        newObject();
        objectsOfTheirOwn();
        chooses();
        stepsOfARoutine();
        clears();
        runs();
        runOfAnOpenBlock();
        dials();
        sizes();
        values();
        fitted();
        logs();
        minus();
        counts();
        countsOfTheLatestRun();
        faults();
        faultsThatAreNone();
        checks.end();
    }

    private static Script script() {
        return new Script(checks);
    }

    private static void newObject() {
        checks.sentence("Empty routines, routine 0 at hand; dials 0, all rows MISSING; an empty LOG, no run.");
        GaugeBench x = new GaugeBench();
        checks.due("dial(0)", x.dial(0), 0.0);
        checks.due("dial(7)", x.dial(7), 0.0);
        checks.due("size(0)", x.size(0), -1);
        checks.due("size(17)", x.size(17), -1);
        checks.due("log(0)", x.log(0), 0.0);
        checks.due("isMinus(0)", x.isMinus(0), false);
        for (int what = 0; what <= 5; what++) {
            checks.due("count(" + what + ")", x.count(what), 0);
            checks.due("fault(" + what + ")", x.fault(what), -1);
        }
        checks.due("clear()", x.clear(), 0);
        for (int r = 0; r <= 3; r++) {
            checks.due("choose(" + r + ")", x.choose(r), 0);
        }
        // The place of the fault tells which routine is at hand.
        Script s = script().add(THROW, 0).runs(9).faults(9, 0, 1, 0, 0, 0);
        checks.due("choose(1)", s.x.choose(1), 0);
    }

    private static void objectsOfTheirOwn() {
        checks.sentence("The DIALS 0 .. 7 hold doubles, 0 at first;");
        Script one = script().add(SET, 0, -8).add(MAKE, 16, 1).add(NOTE, 0).add(TRY).add(FINALLY).add(THROW, 3).add(END).runs(9);
        Script other = script();
        checks.due("size(16) of another object", other.x.size(16), -1);
        checks.due("dial(0) of another object", other.x.dial(0), 0.0);
        other.noFault().logs().counts(0, 0, 0).runs(0);
        one.logs(-1).counts(5, 0, 1).faults(9, 5, 4, 3, 0, 5);
    }

    private static void chooses() {
        checks.sentence("A routine is at hand from now on: how many steps it has. -1, and nothing is done: there is none such.");
        for (int r = 0; r <= 3; r++) {
            Script s = script().choose(r).add(THROW, 1).add(NOTE, 0);
            s.runs(9).faults(9, 40 * r, 2, 1, 0, 40 * r);
            for (int none : new int[] {LEAST, -2, -1, 4, 5, MOST}) {
                checks.due("choose(" + none + ")", s.x.choose(none), -1);
                checks.due("count(0)", s.x.count(0), 2);
                s.runs(9).faults(9, 40 * r, 2, 1, 0, 40 * r);
            }
            s.choose(3 - r).choose(r);
        }
        // As many as there can be; a chosen one may be chosen again.
        Script s = script().choose(3);
        for (int i = 0; i < 40; i++) {
            s.add(NOTE, 0);
        }
        s.choose(3).choose(0).choose(3);
    }

    private static void stepsOfARoutine() {
        checks.sentence("ROUTINES 0 .. 3, one of them AT HAND (0 at first), have at most 40 STEPS each, numbered from 0; none at first");
        for (int r = 0; r <= 3; r++) {
            Script s = script().choose(r);
            for (int i = 0; i < 39; i++) {
                s.add(NOTE, 7);
            }
            s.add(THROW, 9);
            checks.due("a 41st step", s.x.step(NOTE, 7, 0, 0), -3);
            checks.due("count(0)", s.x.count(0), 40);
            int place = 40 * r + 39;
            s.runs(9).counts(40, 0, 0).faults(9, place, 10, 9, 0, place);
            checks.due("count(3)", s.x.count(3), 39);
            // The other routines have 40 of their own.
            s.choose((r + 1) % 4).add(NOTE, 0);
        }
    }

    private static void clears() {
        checks.sentence("The routine at hand has no steps then: how many it had.");
        Script s = script().clear().clear();
        s.add(NOTE, 0).clear().clear();
        for (int i = 0; i < 40; i++) {
            s.add(NOTE, 0);
        }
        s.clear();
        checks.due("count(0)", s.x.count(0), 0);
        s.runs(0).counts(0, 0, 0).logs();
        for (int i = 0; i < 40; i++) {
            s.add(i < 6 ? TRY : NOTE, 0);
        }
        checks.due("count(1)", s.x.count(1), 6);
        s.clear();
        checks.due("count(1)", s.x.count(1), 0);
        // Six more may be open then, and no part of a cleared block is.
        s.add(TRY).add(CATCH, 1).add(TRY).add(FINALLY).clear().add(RETURN);
        checks.due("TELL", s.x.step(TELL, 0, 0, 0), -2);
        for (int i = 0; i < 6; i++) {
            s.add(LOOP, 1);
        }
        checks.due("a seventh block", s.x.step(LOOP, 1, 0, 0), -2);
        // It is the routine at hand alone.
        s = script().add(NOTE, 0).choose(1).add(NOTE, 0).add(NOTE, 0).clear().choose(0).runs(0).logs(0);
        // A cleared routine's new steps are numbered from 0, and its old ones are gone.
        s = script().add(NOTE, 0).add(NOTE, 0).add(NOTE, 0).clear().add(THROW, 5).runs(9).faults(9, 0, 6, 5, 0, 0).counts(1, 0, 0);
        // What is called when it has no steps is over at once.
        s = script().choose(2).add(THROW, 1).clear().choose(0).add(CALL, 2).runs(0).counts(1, 0, 0);
    }

    private static void runs() {
        checks.sentence("The routine at hand is run: 0 it is over; else the kind of the fault that was thrown out of it.");
        script().runs(0).counts(0, 0, 0).noFault();
        script().add(RETURN).runs(0).counts(1, 0, 0).noFault();
        script().add(NOTE, 0).runs(0).runs(0).counts(1, 0, 0).logs(0);
        script().add(SET, 0, -8).add(COUNT, 0, 1).runs(3);
        script().add(MAKE, 0, 0).add(GET, 0, 0, 1).runs(4);
        script().add(SET, 0, -8).add(MAKE, 0, 0).runs(5);
        script().add(FINE, 3, 0, 0).runs(7);
        script().add(SET, 0, 136).add(MAKE, 0, 0).runs(8);
        script().add(THROW, 0).runs(9);
        script().add(CALL, 0).runs(10);
        script().add(TRY).add(THROW, 0).add(CATCH, 1).add(WRAP, 0).add(END).runs(11);
        // A fault that is caught is not thrown out of it.
        script().add(TRY).add(THROW, 0).add(CATCH, 1).add(END).runs(0).noFault();
        // The routine at hand, not another one, and none behind it.
        script().choose(1).add(THROW, 1).choose(0).add(NOTE, 0).runs(0).logs(0).choose(1).runs(9).logs();
    }

    private static void runOfAnOpenBlock() {
        checks.sentence("-1, and nothing is done: a block of it is open.");
        int[][] blocks = {{TRY, 0, 0, 0}, {LOOP, 0, 0, 0}, {IF, 0, 0, 0}};
        for (int[] block : blocks) {
            Script s = script().add(SET, 0, 8).add(NOTE, 0).add(TRY).add(THROW, 4).add(CATCH, 9).add(FINALLY).add(END).add(THROW, 6);
            s.runs(9).add(block[0], block[1], block[2], block[3]);
            s.choose(1).add(SET, 0, 16).runs(0).choose(0).runs(-1);
            // All is as the run of routine 1 left it.
            checks.due("dial(0)", s.x.dial(0), 2.0);
            s.logs().counts(1, 0, 0).noFault();
            s.add(END).runs(9).logs(1).counts(5, 1, 1).faults(9, 7, 7, 6, 0, 7);
            s.add(TRY).add(CATCH, 1).runs(-1).add(FINALLY).runs(-1).logs(1).counts(5, 1, 1).faults(9, 7, 7, 6, 0, 7);
            checks.due("dial(0)", s.x.dial(0), 1.0);
            checks.due("count(0)", s.x.count(0), 13);
            checks.due("count(1)", s.x.count(1), 1);
        }
    }

    private static void dials() {
        checks.sentence("Dial d. 0 if there is none such.");
        Script s = script();
        for (int d = 0; d < 8; d++) {
            s.add(SET, d, -8 - d);
        }
        s.runs(0);
        for (int d = 0; d < 8; d++) {
            checks.due("dial(" + d + ")", s.x.dial(d), -1 - d / 8.0);
        }
        for (int none : new int[] {LEAST, -2, -1, 8, 9, MOST}) {
            checks.due("dial(" + none + ")", s.x.dial(none), 0.0);
        }
    }

    private static void sizes() {
        checks.sentence("How many places row w has; -1 if it is MISSING, -2 if there is none such.");
        for (int w : new int[] {0, 1, 16, 17}) {
            Script s = script();
            checks.due("size(" + w + ")", s.x.size(w), -1);
            int[] sizes = {0, 1, 15, 16};
            for (int size : sizes) {
                s.add(SET, 0, 8 * size).add(MAKE, w, 0).runs(0).clear();
                checks.due("size(" + w + ")", s.x.size(w), size);
            }
            s.add(DROP, w).runs(0);
            checks.due("size(" + w + ")", s.x.size(w), -1);
        }
        for (int none : new int[] {LEAST, -2, -1, 18, 19, MOST}) {
            checks.due("size(" + none + ")", script().x.size(none), -2);
        }
    }

    /** Rows 15 and 17 of 16 places: 2.5 in the first and the last of them, row 17 with NONE elsewhere. */
    private static Script twoRows() {
        return script().add(SET, 0, 128).add(MAKE, 15, 0).add(MAKE, 17, 0).add(SET, 0, 0).add(SET, 1, 120).add(SET, 2, 20)
            .add(FIT, 17, 0).add(FIT, 17, 1).add(PUT, 15, 0, 2).add(PUT, 15, 1, 2).add(PUT, 17, 0, 2).add(PUT, 17, 1, 2).runs(0);
    }

    private static void values() {
        checks.sentence("What is got from place i of row w (of a PROBE its double); 0 where there is none such, or NONE.");
        Script s = twoRows();
        for (int w : new int[] {15, 17}) {
            checks.due("value(" + w + ", 0)", s.x.value(w, 0), 2.5);
            checks.due("value(" + w + ", 15)", s.x.value(w, 15), 2.5);
            for (int none : new int[] {LEAST, -2, -1, 1, 14, 16, 17, MOST}) {
                checks.due("value(" + w + ", " + none + ")", s.x.value(w, none), 0.0);
            }
        }
        for (int none : new int[] {LEAST, -1, 0, 14, 16, 18, 19, MOST}) {
            checks.due("value(" + none + ", 0)", s.x.value(none, 0), 0.0);
            checks.due("value(" + none + ", 15)", s.x.value(none, 15), 0.0);
        }
        // A shorter row has no longer what stood beyond it, one without places has none.
        s.clear().add(SET, 0, 120).add(MAKE, 15, 0).add(MAKE, 17, 0).runs(0);
        checks.due("value(15, 15)", s.x.value(15, 15), 0.0);
        checks.due("value(17, 15)", s.x.value(17, 15), 0.0);
        s.clear().add(SET, 0, 0).add(MAKE, 15, 0).add(MAKE, 17, 0).runs(0);
        checks.due("value(15, 0)", s.x.value(15, 0), 0.0);
        checks.due("value(17, 0)", s.x.value(17, 0), 0.0);
        // A DROP takes all with it.
        s = twoRows().clear().add(DROP, 15).add(DROP, 17).runs(0);
        checks.due("value(15, 0)", s.x.value(15, 0), 0.0);
        checks.due("value(17, 15)", s.x.value(17, 15), 0.0);
        // -0 is got as it is.
        s = script().add(SET, 0, 8).add(MAKE, 14, 0).add(SET, 1, -8).add(FINE, 7, 2, 1).add(SET, 0, 0).add(PUT, 14, 0, 2).runs(0);
        checks.due("value(14, 0)", s.x.value(14, 0), -0.0);
    }

    private static void fitted() {
        checks.sentence("Whether place i of row w holds a PROBE.");
        Script s = twoRows();
        checks.due("isFitted(17, 0)", s.x.isFitted(17, 0), true);
        checks.due("isFitted(17, 15)", s.x.isFitted(17, 15), true);
        for (int none : new int[] {LEAST, -2, -1, 1, 14, 16, 17, MOST}) {
            checks.due("isFitted(17, " + none + ")", s.x.isFitted(17, none), false);
        }
        for (int none : new int[] {LEAST, -1, 0, 14, 15, 16, 18, 19, MOST}) {
            checks.due("isFitted(" + none + ", 0)", s.x.isFitted(none, 0), false);
            checks.due("isFitted(" + none + ", 15)", s.x.isFitted(none, 15), false);
        }
        s.clear().add(SET, 0, 128).add(MAKE, 17, 0).runs(0);
        checks.due("isFitted(17, 0) of a new row", s.x.isFitted(17, 0), false);
        checks.due("isFitted(17, 15) of a new row", s.x.isFitted(17, 15), false);
        s = twoRows().clear().add(DROP, 17).runs(0);
        checks.due("isFitted(17, 0) of a row that is MISSING", s.x.isFitted(17, 0), false);
        // No row of another kind ever holds one, whatever it holds.
        for (int w = 0; w < 16; w++) {
            s = script().add(SET, 0, 8).add(MAKE, w, 0).add(SET, 1, 0).add(PUT, w, 1, 0).runs(0);
            checks.due("isFitted(" + w + ", 0)", s.x.isFitted(w, 0), false);
        }
    }

    private static void logs() {
        checks.sentence("The i-th number of the LOG, from 0; 0 if there is none such.");
        Script s = script().add(SET, 0, -8).add(SET, 1, 24).add(NOTE, 0).add(NOTE, 0).add(NOTE, 1).runs(0);
        checks.due("log(0)", s.x.log(0), -1.0);
        checks.due("log(2)", s.x.log(2), 3.0);
        for (int none : new int[] {LEAST, -2, -1, 3, 4, 799, 800, 801, MOST}) {
            checks.due("log(" + none + ")", s.x.log(none), 0.0);
        }
        // A shorter log has nothing of the longer one before it.
        s.clear().add(NOTE, 1).runs(0).logs(3);
        checks.due("log(1)", s.x.log(1), 0.0);
        checks.due("log(2)", s.x.log(2), 0.0);
        s.clear().runs(0).logs();
    }

    private static void minus() {
        checks.sentence("Whether the i-th number of the LOG has a - (that of -0, too).");
        double[] notes = {-0.0, -Double.MIN_VALUE, -1e15, 0.0, Double.MIN_VALUE, 1e15};
        for (double note : notes) {
            Script s = script();
            s.load(0, note);
            s.add(NOTE, 1).add(NOTE, 0).runs(0).logs(0, note);
            checks.due("isMinus(0) of 0", s.x.isMinus(0), false);
            checks.due("isMinus(1) of " + note, s.x.isMinus(1), note < 0 || 1 / note < 0);
            for (int none : new int[] {LEAST, -1, 2, 799, 800, MOST}) {
                checks.due("isMinus(" + none + ")", s.x.isMinus(none), false);
            }
            // What is no longer in the log has none.
            s.clear().add(NOTE, 1).runs(0);
            checks.due("isMinus(1) of a log of one", s.x.isMinus(1), false);
        }
        // What is told of a fault never has one.
        Script s = script().add(TRY).add(THROW, 0).add(CATCH, 1).add(TELL).add(END).runs(0).logs(9, 1, 1, 0);
        for (int i = 0; i < 4; i++) {
            checks.due("isMinus(" + i + ")", s.x.isMinus(i), false);
        }
    }

    private static void counts() {
        checks.sentence("How many: what = 0 steps of the routine at hand; 1 blocks that are open in it;");
        Script s = script().add(THROW, 1).runs(9);
        for (int none : new int[] {LEAST, -2, -1, 6, 7, MOST}) {
            checks.due("count(" + none + ")", s.x.count(none), -1);
        }
        s.clear();
        for (int open = 1; open <= 6; open++) {
            s.add(IF, 0, 0, 0);
            checks.due("count(0)", s.x.count(0), open);
            checks.due("count(1)", s.x.count(1), open);
        }
        // What is refused counts nothing.
        checks.due("a seventh block", s.x.step(IF, 0, 0, 0), -2);
        checks.due("count(0)", s.x.count(0), 6);
        checks.due("count(1)", s.x.count(1), 6);
        for (int open = 5; open >= 0; open--) {
            s.add(END);
            checks.due("count(1)", s.x.count(1), open);
        }
        checks.due("count(0)", s.x.count(0), 12);
        s.choose(1);
        checks.due("count(0)", s.x.count(0), 0);
    }

    private static void countsOfTheLatestRun() {
        checks.sentence("2 counted in the latest run (0 without one); 3 numbers of the LOG; "
            + "4 faults that were CAUGHT in the latest run, 5 FINALLY parts that were begun in it. -1: no such what.");
        Script s = script().counts(0, 0, 0);
        s.add(TRY).counts(0, 0, 0).runs(-1).counts(0, 0, 0).clear();
        s.spend(200).runs(0).counts(200, 0, 0).clear();
        s.runs(0).counts(0, 0, 0);
        // A fault that no part catches is not CAUGHT; one that is thrown in a CATCH part is not, either.
        script().add(TRY).add(THROW, 1).add(CATCH, 10).add(FINALLY).add(END).runs(9).counts(2, 0, 1);
        script().add(TRY).add(THROW, 1).add(CATCH, 9).add(THROW, 2).add(CATCH, 1).add(FINALLY).add(END).runs(9).counts(3, 1, 1);
        // A FINALLY part is begun though it is empty, or throws at once; not if its TRY is not.
        script().add(TRY).add(FINALLY).add(END).runs(0).counts(1, 0, 1);
        script().add(TRY).add(FINALLY).add(THROW, 1).add(END).runs(9).counts(2, 0, 1);
        script().add(LOOP, 0).add(TRY).add(FINALLY).add(END).add(END).runs(0).counts(1, 0, 0);
        script().add(THROW, 1).add(TRY).add(FINALLY).add(END).runs(9).counts(1, 0, 0);
        // Those of the routines that it calls are of that run, too.
        s = script().choose(1).add(TRY).add(THROW, 1).add(CATCH, 9).add(NOTE, 0).add(FINALLY).add(END);
        s.choose(0).add(CALL, 1).add(CALL, 1).runs(0).counts(8, 2, 2).logs(0, 0);
    }

    private static void faults() {
        checks.sentence("Of the fault that was thrown out of the latest run: what = 0 its kind, 1 its PLACE, 2 its WEIGHT, 3 its NUMBER (0 if it has none), 4 how many EARLIER ones it has; "
            + "5 the PLACE of the last of these (its own, if it has none).");
        script().add(NOTE, 0).add(THROW, 99).runs(9).faults(9, 1, 100, 99, 0, 1);
        script().add(NOTE, 0).add(COUNT, 0, 0).runs(3).faults(3, 1, 11, 0, 0, 1);
        // The last of two EARLIER ones is the one that was thrown first.
        script().add(NOTE, 0).add(TRY).add(TRY).add(COUNT, 0, 0).add(CATCH, 3).add(WRAP, 1).add(END)
            .add(CATCH, 11).add(WRAP, 2).add(END).runs(11).faults(11, 8, 2 * (1 + 26 + 2), 2, 2, 3);
        // One EARLIER fault, in another routine: places above 40.
        Script s = script().choose(3).add(NOTE, 0).add(COUNT, 0, 0).choose(0).add(TRY).add(CALL, 3).add(CATCH, 2).add(WRAP, 99).add(END);
        s.runs(11).faults(11, 3, 2 * (1 + 11 + 99), 99, 1, 121);
        for (int none : new int[] {LEAST, -2, -1, 6, 7, MOST}) {
            checks.due("fault(" + none + ")", s.x.fault(none), -1);
        }
    }

    private static void faultsThatAreNone() {
        checks.sentence("-1 if none was, or no such what.");
        Script s = script().noFault().runs(0).noFault();
        s.add(THROW, 3).noFault().runs(9).faults(9, 0, 4, 3, 0, 0);
        // It stays behind steps, choices, a clear, and a run that is not done; a run that is over takes it away.
        s.add(TRY).runs(-1).choose(1).choose(0).clear().faults(9, 0, 4, 3, 0, 0).runs(0).noFault();
        s.add(TRY).add(THROW, 3).add(CATCH, 1).add(END).runs(0).noFault();
        for (int none : new int[] {LEAST, -1, 6, MOST}) {
            checks.due("fault(" + none + ")", s.x.fault(none), -1);
        }
        // None is thrown out of a run whose CATCH part is left by RETURN.
        script().add(TRY).add(THROW, 1).add(CATCH, 1).add(RETURN).add(END).runs(0).noFault();
    }
}
