/** The sentences about rows: what a place holds, and MAKE, DROP, COUNT, GET, PUT, FIT at their edges. */
public final class RowEdgesTest implements Steps {
    private static final Checks checks = new Checks("edges of rows");
    private static final int MISSING = 3;
    private static final int PLACE = 4;
    private static final int SIZE = 5;
    private static final int RANGE = 8;

    public static void main(String[] args) {
        rows();
        firstHeld();
        flags();
        smallKinds();
        wholeKinds();
        floats();
        asTheyAre();
        ints();
        makes();
        makesAnew();
        drops();
        counts();
        places();
        missingRows();
        noProbe();
        fits();
        oneDialForTwo();
        everyDial();
        checks.end();
    }

    private static Script script() {
        return new Script(checks);
    }

    /** Row w is made with that many places, each of PROBES with a PROBE; dials 0 and 1 are used. */
    private static Script made(int w, int size) {
        Script s = script().add(SET, 0, 8 * size).add(MAKE, w, 0);
        for (int i = 0; w >= 16 && i < size; i++) {
            s.add(SET, 1, 8 * i).add(FIT, w, 1);
        }
        return s.runs(0).clear();
    }

    private static void rows() {
        checks.sentence("ROWS are 0 .. 17: row w is of kind w / 2:");
        // What each kind makes of 70000.875 tells the kinds apart; only FLOATS, DOUBLES and PROBES need more.
        double[] due = {1, 112, 4464, 4464, 70000, 70000, 70000.875, 70000.875, 70000.875};
        for (int w = 0; w < 18; w++) {
            holds(w, 70000.875, due[w / 2]);
            Script s = made(w, 1);
            for (int other = 0; other < 18; other++) {
                checks.due("size(" + other + "), row " + w + " being made", s.x.size(other), other == w ? 1 : -1);
            }
        }
        checks.sentence("0 FLAGS, 1 BYTES, 2 CHARS, 3 SHORTS, 4 INTS, 5 LONGS, 6 FLOATS, 7 DOUBLES, 8 PROBES.");
        double[] lesser = {1, 127, 127, 127, 127, 127, 127.0999984741211, 127.1, 127.1};
        double[] beyond = {1, -1, 65535, -1, 2147483647, 3000000000.0, 3000000000.0, 3000000000.0, 3000000000.0};
        double[] below = {1, -1, 65535, -1, -1, -1, -1.875, -1.875, -1.875};
        for (int w = 0; w < 18; w++) {
            holds(w, 127.1, lesser[w / 2]);
            holds(w, 3e9, beyond[w / 2]);
            holds(w, -1.875, below[w / 2]);
        }
    }

    private static void firstHeld() {
        checks.sentence("A place holds a number as a boolean, byte, char, short, int, long, float, double does, 0 (false) at first; "
            + "a place of PROBES holds a PROBE, which has a double, or NONE, as at first.");
        for (int w = 0; w < 18; w++) {
            Script s = script().add(SET, 0, 128).add(MAKE, w, 0).runs(0);
            for (int i = 0; i < 16; i++) {
                checks.due("value(" + w + ", " + i + ")", s.x.value(w, i), 0.0);
                checks.due("isFitted(" + w + ", " + i + ")", s.x.isFitted(w, i), false);
            }
        }
    }

    /** A double is put into the last of 16 places of row w: what is got from there, by value and by GET. */
    private static void holds(int w, double put, double due) {
        Script s = script().add(SET, 0, 128).add(MAKE, w, 0).add(SET, 1, 120);
        if (w >= 16) {
            s.add(FIT, w, 1);
        }
        s.runs(0).clear();
        s.load(0, put);
        s.add(PUT, w, 1, 0).add(GET, w, 1, 2).runs(0);
        checks.due("value of " + put + " in row " + w, s.x.value(w, 15), due);
        checks.due("dial(2) of " + put + " in row " + w, s.x.dial(2), due);
        checks.due("dial(0), which was put", s.x.dial(0), put);
    }

    private static void hold(int kind, double put, double due) {
        holds(2 * kind, put, due);
        holds(2 * kind + 1, put, due);
    }

    private static void flags() {
        checks.sentence("FLAGS: true if it is not 0.");
        hold(0, 0.0, 0);
        hold(0, -0.0, 0);
        hold(0, Double.MIN_VALUE, 1);
        hold(0, -Double.MIN_VALUE, 1);
        hold(0, 0.125, 1);
        hold(0, 1, 1);
        hold(0, 2, 1);
        hold(0, -1e15, 1);
        checks.sentence("What is got from a place: FLAGS: 1 or 0; else that number as a double.");
        // A flag that was true is false again.
        Script s = made(0, 1).add(SET, 0, 0).add(SET, 1, 8).add(PUT, 0, 0, 1).add(PUT, 0, 0, 0).add(GET, 0, 0, 1).runs(0);
        checks.due("dial(1)", s.x.dial(1), 0.0);
        checks.due("value(0, 0)", s.x.value(0, 0), 0.0);
    }

    private static void smallKinds() {
        checks.sentence("BYTES, CHARS, SHORTS: cast to int, then to byte, char, short.");
        hold(1, 127, 127);
        hold(1, 127.875, 127);
        hold(1, 128, -128);
        hold(1, -128, -128);
        hold(1, -128.875, -128);
        hold(1, -129, 127);
        hold(1, 255, -1);
        hold(1, 256, 0);
        hold(2, 65535, 65535);
        hold(2, 65535.875, 65535);
        hold(2, 65536, 0);
        hold(2, -0.875, 0);
        hold(2, -1, 65535);
        hold(2, 32768, 32768);
        hold(3, 32767, 32767);
        hold(3, 32767.875, 32767);
        hold(3, 32768, -32768);
        hold(3, -32768, -32768);
        hold(3, -32769, 32767);
        hold(3, 65535, -1);
        // Through the int, which stays at its end where the double is beyond it.
        for (int kind = 1; kind <= 3; kind++) {
            double atMost = kind == 2 ? 65535 : -1;
            hold(kind, 2147483646, atMost - 1);
            hold(kind, 2147483647, atMost);
            hold(kind, 2147483648.0, atMost);
            hold(kind, 4294967296.0 + 5, atMost);
            hold(kind, 1e15, atMost);
            hold(kind, -2147483647, 1);
            hold(kind, -2147483648, 0);
            hold(kind, -2147483649.0, 0);
            hold(kind, -1e15, 0);
        }
    }

    private static void wholeKinds() {
        checks.sentence("(Casts of doubles and floats to int and long cut off toward 0 and stay at the least or the greatest int, long where it is beyond.)");
        double[] same = {2147483646, 2147483647, -2147483647, -2147483648, 1, -1};
        for (double one : same) {
            hold(4, one, one);
            hold(5, one, one);
        }
        for (int kind = 4; kind <= 5; kind++) {
            hold(kind, 0.9999999999999999, 0);
            hold(kind, -0.9999999999999999, 0);
            hold(kind, -0.0, 0);
            hold(kind, 1.9999999999999998, 1);
            hold(kind, -1.9999999999999998, -1);
            hold(kind, 2147483647.875, 2147483647);
            hold(kind, -2147483648.875, -2147483648.0);
        }
        hold(4, 2147483648.0, 2147483647);
        hold(5, 2147483648.0, 2147483648.0);
        hold(4, -2147483649.0, -2147483648);
        hold(5, -2147483649.0, -2147483649.0);
        hold(4, 1e15, 2147483647);
        hold(4, -1e15, -2147483648);
        hold(5, 1e15, 1e15);
        hold(5, -1e15, -1e15);
        hold(5, 999999999999999.9, 999999999999999.0);
    }

    private static void floats() {
        checks.sentence("INTS, LONGS, FLOATS: cast to int, long, float.");
        hold(6, 16777216, 16777216);
        hold(6, 16777217, 16777216);
        hold(6, 16777218, 16777218);
        hold(6, 16777219, 16777220);
        hold(6, 0.1, 0.10000000149011612);
        hold(6, -0.0, -0.0);
        hold(6, 1e15, 999999986991104.0);
        hold(6, -1e15, -999999986991104.0);
        // Half of the least float is 0, just above it is the least one.
        hold(6, Math.scalb(1.0, -149), Math.scalb(1.0, -149));
        hold(6, Math.nextUp(Math.scalb(1.0, -150)), Math.scalb(1.0, -149));
        hold(6, Math.scalb(1.0, -150), 0.0);
        hold(6, -Math.scalb(1.0, -150), -0.0);
        hold(6, Double.MIN_VALUE, 0.0);
    }

    private static void asTheyAre() {
        checks.sentence("DOUBLES, and a PROBE: as it is.");
        double[] same = {0.0, -0.0, Double.MIN_VALUE, -Double.MIN_VALUE, 0.1, 999999999999999.9, 1e15, -1e15, 16777217};
        for (double one : same) {
            hold(7, one, one);
            hold(8, one, one);
        }
    }

    private static void ints() {
        checks.sentence("A dial's INT is its double cast to int.");
        // As the number of a place: {the dial, whether it is a place of a row of 2}.
        double[][] places = {{-1, 0}, {-0.9999999999999999, 1}, {-0.0, 1}, {0.9999999999999999, 1}, {1.9999999999999998, 1}, {2, 0},
            {4294967296.0, 0}, {4294967297.0, 0}, {-4294967296.0, 0}, {1e15, 0}, {-1e15, 0}};
        for (double[] place : places) {
            for (int w : new int[] {9, 16}) {
                Script s = made(w, 2);
                s.load(4, place[0]);
                int due = place[1] == 1 ? 0 : PLACE;
                s.add(GET, w, 4, 5).runs(due).clear().add(PUT, w, 4, 5).runs(due).clear();
                if (w == 16) {
                    s.add(FIT, w, 4).runs(due);
                }
            }
        }
    }

    private static void makes() {
        checks.sentence("MAKE: the row is a new one with as many places as the INT of dial b: RANGE if that is above 16, SIZE if it is below 0.");
        double[][] sizes = {{-1e15, -SIZE}, {-2147483649.0, -SIZE}, {-4294967296.0, -SIZE}, {-2, -SIZE}, {-1, -SIZE}, {-0.9999999999999999, 0},
            {-0.0, 0}, {0, 0}, {0.9999999999999999, 0}, {1, 1}, {15, 15}, {15.999999999999998, 15}, {16, 16}, {16.999999999999996, 16},
            {17, -RANGE}, {18, -RANGE}, {2147483648.0, -RANGE}, {4294967296.0, -RANGE}, {1e15, -RANGE}};
        for (int w = 0; w < 18; w++) {
            for (double[] size : sizes) {
                Script s = made(w, 3);
                s.load(2, size[0]);
                int due = (int) size[1];
                s.add(MAKE, w, 2).runs(due < 0 ? -due : 0);
                checks.due("size(" + w + ") made with " + size[0], s.x.size(w), due < 0 ? 3 : due);
                checks.due("isFitted(" + w + ", 2)", s.x.isFitted(w, 2), w >= 16 && due < 0);
                checks.due("dial(2)", s.x.dial(2), size[0]);
                if (due >= 0) {
                    s.noFault();
                } else if (due == -SIZE) {
                    s.faults(SIZE, 0, 3, 0, 0, 0);
                } else {
                    s.faults(RANGE, 0, 106, 0, 0, 0);
                }
            }
            // A row that is MISSING stays so where MAKE throws.
            Script s = script().add(SET, 2, -8).add(MAKE, w, 2).runs(SIZE).clear().add(SET, 2, 136).add(MAKE, w, 2).runs(RANGE);
            checks.due("size(" + w + ")", s.x.size(w), -1);
        }
    }

    private static void makesAnew() {
        checks.sentence("A row is MISSING, as at first, or has 0 to 16 PLACES, from 0.");
        for (int w = 0; w < 18; w++) {
            // Every place of 16 holds 1; then the row is made anew with 16, with 1, and with 16 again.
            Script s = made(w, 16);
            s.add(SET, 1, 8);
            for (int i = 0; i < 16; i++) {
                s.add(SET, 0, 8 * i).add(PUT, w, 0, 1);
            }
            s.runs(0).clear();
            for (int i = 0; i < 16; i++) {
                checks.due("value(" + w + ", " + i + ")", s.x.value(w, i), 1.0);
            }
            for (int size : new int[] {16, 1, 16}) {
                s.add(SET, 0, 8 * size).add(MAKE, w, 0).runs(0).clear();
                checks.due("size(" + w + ")", s.x.size(w), size);
                for (int i = 0; i < 16; i++) {
                    checks.due("value(" + w + ", " + i + ") made anew", s.x.value(w, i), 0.0);
                    checks.due("isFitted(" + w + ", " + i + ") made anew", s.x.isFitted(w, i), false);
                }
            }
        }
    }

    private static void drops() {
        checks.sentence("DROP: the row is MISSING.");
        for (int w = 0; w < 18; w++) {
            Script s = script().add(DROP, w).runs(0);
            checks.due("size(" + w + ")", s.x.size(w), -1);
            s = made(w, 16).add(SET, 0, 8).add(MAKE, w ^ 1, 0).add(DROP, w).add(DROP, w).runs(0);
            checks.due("size(" + w + ")", s.x.size(w), -1);
            checks.due("size of the row beside it", s.x.size(w ^ 1), 1);
            s = made(w, 0).add(DROP, w).runs(0);
            checks.due("size(" + w + ")", s.x.size(w), -1);
        }
    }

    private static void counts() {
        checks.sentence("COUNT: dial b becomes the number of places; MISSING.");
        for (int w = 0; w < 18; w++) {
            for (int size : new int[] {0, 1, 16}) {
                Script s = made(w, size).add(SET, 7, -9).add(COUNT, w, 7).runs(0);
                checks.due("dial(7)", s.x.dial(7), (double) size);
            }
            Script s = script().add(SET, 7, -9).add(COUNT, w, 7).runs(MISSING).faults(MISSING, 1, 11, 0, 0, 1);
            checks.due("dial(7)", s.x.dial(7), -1.125);
            s = made(w, 4).add(DROP, w).add(SET, 7, -9).add(COUNT, w, 7).runs(MISSING);
            checks.due("dial(7)", s.x.dial(7), -1.125);
        }
    }

    private static void places() {
        checks.sentence("GET: dial c becomes what is got from the place that is the INT of dial b; PUT: dial c is put there: MISSING, if the row is, else PLACE, if it has no such place;");
        for (int w = 0; w < 18; w++) {
            for (int size : new int[] {0, 1, 16}) {
                Script s = made(w, size);
                for (int i : new int[] {-1, 0, size - 1, size}) {
                    boolean is = i >= 0 && i < size;
                    s.add(SET, 0, 8 * i).add(SET, 1, 8).add(PUT, w, 0, 1).runs(is ? 0 : PLACE).clear();
                    checks.due("value(" + w + ", " + i + ") behind PUT", s.x.value(w, i), is ? 1.0 : 0.0);
                    s.add(SET, 2, -9).add(GET, w, 0, 2).runs(is ? 0 : PLACE).clear();
                    checks.due("dial(2) behind GET", s.x.dial(2), is ? 1.0 : -1.125);
                    if (!is) {
                        s.faults(PLACE, 1, 1, 0, 0, 1);
                    }
                }
            }
        }
    }

    private static void missingRows() {
        // MISSING is told first, whatever the place is.
        for (int w = 0; w < 18; w++) {
            for (int i : new int[] {-1, 0, 16}) {
                Script s = script().add(SET, 0, 8 * i).add(SET, 1, 9).add(GET, w, 0, 1).runs(MISSING).faults(MISSING, 2, 11, 0, 0, 2);
                checks.due("dial(1)", s.x.dial(1), 1.125);
                s.clear().add(PUT, w, 0, 1).runs(MISSING).faults(MISSING, 0, 11, 0, 0, 0);
                checks.due("size(" + w + ")", s.x.size(w), -1);
                if (w >= 16) {
                    s.clear().add(FIT, w, 0).runs(MISSING).faults(MISSING, 0, 11, 0, 0, 0);
                    checks.due("size(" + w + ")", s.x.size(w), -1);
                }
            }
        }
    }

    private static void noProbe() {
        checks.sentence("then, of PROBES, MISSING, if that place holds NONE.");
        for (int w = 16; w < 18; w++) {
            Script s = script().add(SET, 0, 16).add(MAKE, w, 0).add(SET, 1, 9).runs(0).clear();
            // Of two places: 0 and 1 hold NONE, 2 is none.
            int[] due = {MISSING, MISSING, PLACE};
            for (int i = 0; i < 3; i++) {
                s.add(SET, 0, 8 * i).add(GET, w, 0, 1).runs(due[i]).clear().add(PUT, w, 0, 1).runs(due[i]).clear();
                checks.due("dial(1)", s.x.dial(1), 1.125);
                checks.due("value(" + w + ", " + i + ")", s.x.value(w, i), 0.0);
                checks.due("isFitted(" + w + ", " + i + ")", s.x.isFitted(w, i), false);
            }
            s.add(SET, 0, 8).add(FIT, w, 0).add(PUT, w, 0, 1).add(GET, w, 0, 2).runs(0).clear();
            checks.due("dial(2)", s.x.dial(2), 1.125);
            s.add(SET, 0, 0).add(GET, w, 0, 1).runs(MISSING);
        }
    }

    private static void fits() {
        checks.sentence("FIT: that place holds a new PROBE, with 0: MISSING, PLACE.");
        for (int w = 16; w < 18; w++) {
            for (int size : new int[] {0, 1, 16}) {
                for (int i : new int[] {-1, 0, size - 1, size}) {
                    boolean is = i >= 0 && i < size;
                    Script s = script().add(SET, 0, 8 * size).add(MAKE, w, 0).add(SET, 1, 8 * i).add(FIT, w, 1).runs(is ? 0 : PLACE);
                    checks.due("isFitted(" + w + ", " + i + ")", s.x.isFitted(w, i), is);
                    if (is) {
                        s.add(SET, 2, 9).add(PUT, w, 1, 2).runs(0);
                        checks.due("value(" + w + ", " + i + ")", s.x.value(w, i), 1.125);
                        s.clear().add(FIT, w, 1).runs(0);
                        checks.due("value(" + w + ", " + i + ") of a new PROBE", s.x.value(w, i), 0.0);
                        checks.due("isFitted(" + w + ", " + i + ")", s.x.isFitted(w, i), true);
                    } else {
                        s.faults(PLACE, 3, 1, 0, 0, 3);
                    }
                }
            }
            // In the row of the same kind beside it nothing is fitted.
            Script s = made(w, 1).add(SET, 0, 8).add(MAKE, 33 - w, 0).runs(0);
            checks.due("isFitted(" + (33 - w) + ", 0)", s.x.isFitted(33 - w, 0), false);
        }
    }

    /** The dial that tells the place may be the one that is got into, or put. */
    private static void oneDialForTwo() {
        for (int w : new int[] {15, 16}) {
            Script s = made(w, 16).add(SET, 3, 120).add(PUT, w, 3, 3).runs(0).clear();
            checks.due("value(" + w + ", 15)", s.x.value(w, 15), 15.0);
            s.add(SET, 4, -20).add(PUT, w, 3, 4).add(GET, w, 3, 3).runs(0).clear();
            checks.due("dial(3)", s.x.dial(3), -2.5);
            s.add(GET, w, 3, 3).runs(PLACE).clear();
            s.add(COUNT, w, 3).add(GET, w, 3, 3).runs(PLACE);
            checks.due("dial(3)", s.x.dial(3), 16.0);
        }
    }

    /** Dial d is d, the row has 16 places: place b holds c, and dial c becomes what place b holds. */
    private static void everyDial() {
        for (int w : new int[] {9, 17}) {
            for (int b = 0; b < 8; b++) {
                for (int c = 0; c < 8; c++) {
                    Script s = made(w, 16);
                    for (int d = 0; d < 8; d++) {
                        s.add(SET, d, 8 * d);
                    }
                    s.add(PUT, w, b, c).runs(0);
                    for (int i = 0; i < 16; i++) {
                        checks.due("value(" + w + ", " + i + ") behind PUT " + b + ", " + c, s.x.value(w, i), i == b ? (double) c : 0.0);
                    }
                    s.clear().add(SET, c, -16).add(SET, b, 8 * b).add(GET, w, b, c).runs(0);
                    for (int d = 0; d < 8; d++) {
                        double due = d == c ? c : d;
                        checks.due("dial(" + d + ") behind GET " + b + ", " + c, s.x.dial(d), due);
                    }
                }
                Script s = script().add(SET, b, 8 * b + 8).add(MAKE, w, b).runs(0);
                checks.due("size(" + w + ") made by dial " + b, s.x.size(w), b + 1);
                s.clear().add(SET, b, -8).add(COUNT, w, b).runs(0);
                checks.due("dial(" + b + ") behind COUNT", s.x.dial(b), b + 1.0);
                if (w == 17) {
                    s.clear().add(SET, b, 8 * b).add(FIT, w, b).runs(0);
                    for (int i = 0; i <= b; i++) {
                        checks.due("isFitted(17, " + i + ")", s.x.isFitted(17, i), i == b);
                    }
                }
            }
        }
    }
}
