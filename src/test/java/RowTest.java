/** Promises 7, 8 and 9: size, value, isFitted, and what rows of each kind hold. */
public final class RowTest implements Steps {
    private static final Checks checks = new Checks("promises 7, 8 and 9");
    private static final int[] NONE = {-1, 18, 19, Integer.MIN_VALUE, Integer.MAX_VALUE};

    public static void main(String[] args) {
        sizes();
        noSuchPlace();
        heldByKind();
        newRows();
        probes();
        checks.end();
    }

    private static void sizes() {
        for (int w = 0; w < 18; w++) {
            Script s = new Script(checks);
            for (int size = 0; size <= 16; size++) {
                s.add(SET, 0, 8 * size).add(MAKE, w, 0).runs(0).clear();
                checks.due("size(" + w + ")", s.x.size(w), size);
                checks.due("size of the row beside it", s.x.size(w ^ 1), -1);
            }
            s.add(DROP, w).runs(0);
            checks.due("size(" + w + ") behind DROP", s.x.size(w), -1);
        }
        GaugeBench x = new GaugeBench();
        for (int w : NONE) {
            checks.due("size(" + w + ")", x.size(w), -2);
        }
    }

    /** A row of which every place holds 1. */
    private static Script ones(int w, int size) {
        Script s = new Script(checks).add(SET, 0, 8 * size).add(MAKE, w, 0).add(SET, 1, 8).add(SET, 0, 0);
        for (int i = 0; i < size; i++) {
            if (w >= 16) {
                s.add(FIT, w, 0);
            }
            s.add(PUT, w, 0, 1).add(FINE, 0, 0, 1);
        }
        return s.runs(0).clear();
    }

    private static void noSuchPlace() {
        for (int w = 0; w < 18; w++) {
            Script s = ones(w, 3);
            int[] places = {0, 2, 3, 15, 16, -1, Integer.MIN_VALUE, Integer.MAX_VALUE};
            for (int i : places) {
                boolean is = i >= 0 && i < 3;
                checks.due("value(" + w + ", " + i + ")", s.x.value(w, i), is ? 1.0 : 0.0);
                checks.due("isFitted(" + w + ", " + i + ")", s.x.isFitted(w, i), is && w >= 16);
            }
            for (int none : NONE) {
                checks.due("value(" + none + ", 0)", s.x.value(none, 0), 0.0);
                checks.due("isFitted(" + none + ", 0)", s.x.isFitted(none, 0), false);
            }
            s.add(DROP, w).runs(0);
            checks.due("value(" + w + ", 0) behind DROP", s.x.value(w, 0), 0.0);
            checks.due("isFitted(" + w + ", 0) behind DROP", s.x.isFitted(w, 0), false);
        }
    }

    /** What is got, by kind, of a double that was put there. */
    private static final double[][] HELD = {
        {0.125, 1, 0, 0, 0, 0, 0, 0.125, 0.125, 0.125},
        {-0.0, 0, 0, 0, 0, 0, 0, -0.0, -0.0, -0.0},
        {Double.MIN_VALUE, 1, 0, 0, 0, 0, 0, 0, Double.MIN_VALUE, Double.MIN_VALUE},
        {-1.875, 1, -1, 65535, -1, -1, -1, -1.875, -1.875, -1.875},
        {200, 1, -56, 200, 200, 200, 200, 200, 200, 200},
        {40000, 1, 64, 40000, -25536, 40000, 40000, 40000, 40000, 40000},
        {65536, 1, 0, 0, 0, 65536, 65536, 65536, 65536, 65536},
        {16777217, 1, 1, 1, 1, 16777217, 16777217, 16777216, 16777217, 16777217},
        {4294967297.5, 1, -1, 65535, -1, 2147483647, 4294967297.0, 4294967296.0, 4294967297.5, 4294967297.5},
        {-1e15, 1, 0, 0, 0, -2147483648, -1e15, -999999986991104.0, -1e15, -1e15},
        {0.1, 1, 0, 0, 0, 0, 0, 0.10000000149011612, 0.1, 0.1}};

    private static void heldByKind() {
        for (double[] held : HELD) {
            for (int w = 0; w < 18; w++) {
                Script s = ones(w, 2);
                s.load(0, held[0]);
                s.add(SET, 1, 8).add(PUT, w, 1, 0).add(GET, w, 1, 2).runs(0);
                String put = held[0] + " put into row " + w;
                checks.due("value of " + put, s.x.value(w, 1), held[1 + w / 2]);
                checks.due("dial(2) of " + put, s.x.dial(2), held[1 + w / 2]);
                checks.due("value of the place beside " + put, s.x.value(w, 0), 1.0);
            }
        }
    }

    private static void newRows() {
        // A row that is made anew holds 0 everywhere, or NONE, also where it was longer before.
        for (int w = 0; w < 18; w++) {
            Script s = ones(w, 8).add(SET, 0, 16).add(MAKE, w, 0).runs(0).clear();
            placesAreNew(s, w, 2);
            s.add(SET, 0, 64).add(MAKE, w, 0).runs(0).clear();
            placesAreNew(s, w, 8);
            s = ones(w, 8).add(DROP, w).add(SET, 0, 128).add(MAKE, w, 0).runs(0).clear();
            placesAreNew(s, w, 16);
        }
    }

    private static void placesAreNew(Script s, int w, int size) {
        checks.due("size(" + w + ")", s.x.size(w), size);
        for (int i = 0; i < 16; i++) {
            checks.due("value(" + w + ", " + i + ")", s.x.value(w, i), 0.0);
            checks.due("isFitted(" + w + ", " + i + ")", s.x.isFitted(w, i), false);
        }
        s.add(SET, 0, 0).add(GET, w, 0, 1).runs(w < 16 ? 0 : 3).clear();
    }

    private static void probes() {
        for (int w = 16; w < 18; w++) {
            Script s = new Script(checks).add(SET, 0, 24).add(MAKE, w, 0).add(SET, 0, 8).add(FIT, w, 0).runs(0).clear();
            for (int i = 0; i < 3; i++) {
                checks.due("isFitted(" + w + ", " + i + ")", s.x.isFitted(w, i), i == 1);
                checks.due("value(" + w + ", " + i + ")", s.x.value(w, i), 0.0);
            }
            // Another FIT is a new PROBE, with 0.
            s.add(SET, 1, -20).add(PUT, w, 0, 1).runs(0).clear();
            checks.due("value(" + w + ", 1)", s.x.value(w, 1), -2.5);
            s.add(FIT, w, 0).runs(0);
            checks.due("value(" + w + ", 1) behind FIT", s.x.value(w, 1), 0.0);
            checks.due("isFitted(" + w + ", 1) behind FIT", s.x.isFitted(w, 1), true);
            checks.due("isFitted of the row beside it", s.x.isFitted(33 - w, 1), false);
        }
    }
}
