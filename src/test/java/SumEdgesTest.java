/** The sentences about dials and sums: what a dial may hold, SET, FINE, ROUGH, WHOLE, WIDE at their edges. */
public final class SumEdgesTest implements Steps {
    private static final Checks checks = new Checks("edges of sums");
    private static final int ZERO = 7;
    private static final int RANGE = 8;
    private static final double MOST = 1e15;
    // The doubles beside the most that a dial holds, and the ones beside 1.
    private static final double BELOW_MOST = 999999999999999.875;
    private static final double BELOW_ONE = 0.9999999999999999;
    // The greatest float that a dial holds, and the least one above 0; half of that is 0 as a float.
    private static final double MOST_FLOAT = 999999986991104.0;
    private static final double LEAST_FLOAT = Math.scalb(1.0, -149);
    private static final double HALF_LEAST_FLOAT = Math.scalb(1.0, -150);
    private static final double TINY = Double.MIN_VALUE;

    public static void main(String[] args) {
        dialsHold();
        sets();
        plainSums();
        quotients();
        rests();
        lesserAndGreater();
        signs();
        wholeNumbers();
        nearest();
        unitsAndLongs();
        roughCasts();
        roughSums();
        roughOfOne();
        zeros();
        ranges();
        zeroBeforeRange();
        wholes();
        wholeDivisions();
        bits();
        wides();
        wideRange();
        oneDialForBoth();
        everyDial();
        checks.end();
    }

    /** Dials 0 and 1 are x and y: what dial 0 becomes. */
    private static void sum(int what, int sum, double x, double y, double due) {
        Script s = new Script(checks);
        s.load(0, x);
        s.load(1, y);
        s.add(what, sum, 0, 1).runs(0).noFault();
        checks.due(name(what, sum, x, y), s.x.dial(0), due);
        checks.due("dial(1) behind it", s.x.dial(1), y);
    }

    /** A fault of that kind is thrown, and dial 0 stays. */
    private static void fails(int what, int sum, double x, double y, int kind) {
        Script s = new Script(checks);
        s.load(0, x);
        s.load(1, y);
        s.add(what, sum, 0, 1).runs(kind);
        checks.due("kind of the fault of " + name(what, sum, x, y), s.x.fault(0), kind);
        checks.due("weight of the fault of " + name(what, sum, x, y), s.x.fault(2), kind == ZERO ? 101 : 106);
        checks.due("dial(0) behind " + name(what, sum, x, y), s.x.dial(0), x);
        checks.due("dial(1) behind it", s.x.dial(1), y);
    }

    private static String name(int what, int sum, double x, double y) {
        return "step(" + what + ", " + sum + ", 0, 1) of " + x + ", " + y;
    }

    private static void fine(int sum, double x, double y, double due) {
        sum(FINE, sum, x, y, due);
    }

    private static void rough(int sum, double x, double y, double due) {
        sum(ROUGH, sum, x, y, due);
    }

    /** Of what is the same by doubles and by floats. */
    private static void both(int sum, double x, double y, double due) {
        fine(sum, x, y, due);
        rough(sum, x, y, due);
    }

    private static void dialsHold() {
        checks.sentence("none is ever above 1000000000000000 or below -1000000000000000.");
        fine(0, BELOW_MOST, 0.125, MOST);
        fine(0, MOST, 0.0, MOST);
        // Half of what lies between two doubles there is lost, so it is still the most.
        fine(0, MOST, 0.0625, MOST);
        fails(FINE, 0, MOST, 0.125, RANGE);
        fine(1, -BELOW_MOST, 0.125, -MOST);
        fine(1, -MOST, 0.0625, -MOST);
        fails(FINE, 1, -MOST, 0.125, RANGE);
        fails(FINE, 0, -MOST, -0.125, RANGE);
        fails(FINE, 1, MOST, -0.125, RANGE);
        fine(2, 1e8, 1e7, MOST);
        fine(2, -1e8, 1e7, -MOST);
        fails(FINE, 2, MOST, 1.0000000000000002, RANGE);
        fails(FINE, 2, MOST, MOST, RANGE);
        fails(FINE, 2, -MOST, MOST, RANGE);
        fine(3, 5e14, 0.5, MOST);
        fine(3, 5e14, -0.5, -MOST);
        fails(FINE, 3, MOST, BELOW_ONE, RANGE);
        fails(FINE, 3, MOST, -BELOW_ONE, RANGE);
        fails(FINE, 3, MOST, TINY, RANGE);
        fails(FINE, 3, MOST, -TINY, RANGE);
    }

    private static void sets() {
        checks.sentence("SET: dial a becomes b / 8, b being an int.");
        int[] eighths = {Integer.MIN_VALUE, Integer.MIN_VALUE + 1, -9, -8, -7, -1, 0, 1, 7, 8, 9, Integer.MAX_VALUE - 1, Integer.MAX_VALUE};
        double[] due = {-268435456, -268435455.875, -1.125, -1, -0.875, -0.125, 0, 0.125, 0.875, 1, 1.125, 268435455.75, 268435455.875};
        for (int d = 0; d < 8; d++) {
            Script s = new Script(checks);
            for (int i = 0; i < eighths.length; i++) {
                s.add(SET, d, eighths[i]).runs(0).clear();
                checks.due("dial(" + d + ") set to " + eighths[i] + " eighths", s.x.dial(d), due[i]);
                checks.due("the dial beside it", s.x.dial(d ^ 1), 0.0);
            }
        }
        // 0 eighths are 0, not -0, whatever the dial was.
        Script s = new Script(checks).add(SET, 0, -1).add(SET, 0, 0).add(NOTE, 0).runs(0).logs(0.0);
        checks.due("isMinus(0)", s.x.isMinus(0), false);
    }

    private static void plainSums() {
        checks.sentence("0 x + y, 1 x - y, 2 x * y, 3 x / y, 4 what x leaves when divided by y (with x's sign, the quotient cut off toward 0)");
        both(0, 1.5, 2.25, 3.75);
        both(0, 2, -2, 0.0);
        both(0, -0.0, -0.0, -0.0);
        both(0, -0.0, 0.0, 0.0);
        fine(0, 0.1, 0.2, 0.30000000000000004);
        both(1, 1.5, 2.25, -0.75);
        both(1, 0.0, 0.0, 0.0);
        both(1, -0.0, 0.0, -0.0);
        both(1, 0.0, -0.0, 0.0);
        both(2, 1.5, -2, -3);
        both(2, 0.0, -3, -0.0);
        both(2, -0.0, -3, 0.0);
        fine(2, TINY, 0.5, 0.0);
        fine(2, -TINY, 0.5, -0.0);
        fine(2, TINY, 0.75, TINY);
    }

    private static void quotients() {
        both(3, 3, 2, 1.5);
        both(3, -3, 2, -1.5);
        both(3, 3, -2, -1.5);
        both(3, 0.0, -2, -0.0);
        both(3, -0.0, -2, 0.0);
        fine(3, 1, 3, 0.3333333333333333);
        fine(3, TINY, TINY, 1);
        fine(3, TINY, 2, 0.0);
        fine(3, -TINY, 2, -0.0);
        fine(3, 3 * TINY, 2, 2 * TINY);
        rough(3, LEAST_FLOAT, LEAST_FLOAT, 1);
        rough(3, LEAST_FLOAT, 2, 0.0);
        rough(3, LEAST_FLOAT, -2, -0.0);
        rough(3, 1, 3, 0.3333333432674408);
    }

    private static void rests() {
        both(4, 7, 2, 1);
        both(4, -7, 2, -1);
        both(4, 7, -2, 1);
        both(4, -7, -2, -1);
        // Just below, at, and just above the divisor and a multiple of it.
        both(4, 1.875, 2, 1.875);
        both(4, 2, 2, 0.0);
        both(4, -2, 2, -0.0);
        both(4, 1, 1, 0.0);
        both(4, -1, 1, -0.0);
        both(4, 2.125, 2, 0.125);
        both(4, 5.875, 2, 1.875);
        both(4, 6, 2, 0.0);
        both(4, 6, -2, 0.0);
        both(4, -6, -2, -0.0);
        both(4, 0.5, 0.125, 0.0);
        both(4, -0.625, 0.5, -0.125);
        both(4, 0.0, 2, 0.0);
        both(4, -0.0, 2, -0.0);
        both(4, 0.0, -2, 0.0);
        // By a quotient that is rounded these would come out otherwise.
        fine(4, 1, 0.1, 0.09999999999999995);
        fine(4, 6, 0.1, 0.09999999999999967);
        fine(4, MOST, 0.1, MOST % 0.1);
        fine(4, 1 - BELOW_ONE, BELOW_ONE, 1 - BELOW_ONE);
        fine(4, BELOW_ONE, 1, BELOW_ONE);
        fine(4, 1, BELOW_ONE, 1 - BELOW_ONE);
        fine(4, MOST, TINY, 0.0);
        fine(4, -MOST, TINY, -0.0);
        fine(4, MOST, 3 * TINY, MOST % (3 * TINY));
        fine(4, TINY, MOST, TINY);
        fine(4, 5 * TINY, -2 * TINY, TINY);
        fine(4, MOST, MOST, 0.0);
        fine(4, BELOW_MOST, MOST, BELOW_MOST);
        fine(4, -MOST, BELOW_MOST, -0.125);
        rough(4, 1, 0.1, 1f % 0.1f);
        rough(4, MOST_FLOAT, LEAST_FLOAT, 0.0);
        rough(4, MOST_FLOAT, 3 * LEAST_FLOAT, 999999986991104f % (3 * 1.4e-45f));
    }

    private static void lesserAndGreater() {
        checks.sentence("5 the lesser, 6 the greater one (-0 is less than 0)");
        double[][] pairs = {{-0.0, 0.0}, {-1, 1}, {1, 2}, {-2, -1}, {0.0, LEAST_FLOAT}, {-LEAST_FLOAT, -0.0}, {-MOST_FLOAT, MOST_FLOAT}};
        for (double[] pair : pairs) {
            both(5, pair[0], pair[1], pair[0]);
            both(5, pair[1], pair[0], pair[0]);
            both(6, pair[0], pair[1], pair[1]);
            both(6, pair[1], pair[0], pair[1]);
            both(5, pair[0], pair[0], pair[0]);
            both(6, pair[1], pair[1], pair[1]);
            both(6, pair[0], pair[0], pair[0]);
            both(5, pair[1], pair[1], pair[1]);
        }
        fine(5, BELOW_ONE, 1, BELOW_ONE);
        fine(6, BELOW_ONE, 1, 1);
    }

    private static void signs() {
        checks.sentence("7 x with y's sign (that of -0 is -);");
        double[] sizes = {0.0, LEAST_FLOAT, 1, MOST_FLOAT};
        for (double size : sizes) {
            for (double y : new double[] {0.0, LEAST_FLOAT, 2}) {
                both(7, size, y, size);
                both(7, -size, y, size);
                both(7, size, -y, -size);
                both(7, -size, -y, -size);
            }
        }
        checks.sentence("of y alone: 8 y without sign");
        for (double size : sizes) {
            both(8, -5, size, size);
            both(8, -5, -size, size);
            both(8, 5, -size, size);
        }
        fine(8, 5, -MOST, MOST);
    }

    private static void wholeNumbers() {
        checks.sentence("9 the greatest whole number not above y, 10 the least one not below");
        checks.sentence("(9 to 11 keep y's sign if they are 0)");
        // {y, 9, 10}
        double[][] due = {{0.0, 0.0, 0.0}, {-0.0, -0.0, -0.0}, {LEAST_FLOAT, 0.0, 1}, {-LEAST_FLOAT, -1, -0.0},
            {0.5, 0.0, 1}, {-0.5, -1, -0.0}, {1, 1, 1}, {-1, -1, -1}, {1.125, 1, 2}, {-1.125, -2, -1}, {1.875, 1, 2}, {-1.875, -2, -1},
            {16777216, 16777216, 16777216}, {-16777216, -16777216, -16777216}, {MOST_FLOAT, MOST_FLOAT, MOST_FLOAT}};
        for (double[] one : due) {
            both(9, 5, one[0], one[1]);
            both(10, 5, one[0], one[2]);
        }
        double[][] fineOnes = {{BELOW_ONE, 0.0, 1}, {-BELOW_ONE, -1, -0.0}, {1.0000000000000002, 1, 2}, {-1.0000000000000002, -2, -1},
            {TINY, 0.0, 1}, {-TINY, -1, -0.0}, {BELOW_MOST, 999999999999999.0, MOST}, {-BELOW_MOST, -MOST, -999999999999999.0},
            {MOST, MOST, MOST}, {-MOST, -MOST, -MOST}, {4294967296.5, 4294967296.0, 4294967297.0}, {-4294967296.5, -4294967297.0, -4294967296.0}};
        for (double[] one : fineOnes) {
            fine(9, -5, one[0], one[1]);
            fine(10, -5, one[0], one[2]);
        }
    }

    private static void nearest() {
        checks.sentence("11 the nearest one, of two the even one (9 to 11 keep y's sign if they are 0)");
        double[][] due = {{0.0, 0.0}, {0.375, 0.0}, {0.5, 0.0}, {0.625, 1}, {1, 1}, {1.375, 1}, {1.5, 2}, {1.625, 2}, {2.375, 2}, {2.5, 2},
            {2.625, 3}, {3.5, 4}, {4.5, 4}, {LEAST_FLOAT, 0.0}, {8388607.5, 8388608}, {8388606.5, 8388606}, {MOST_FLOAT, MOST_FLOAT}};
        for (double[] one : due) {
            both(11, 5, one[0], one[1]);
            both(11, 5, -one[0], -one[1]);
        }
        double[][] fineOnes = {{0.49999999999999994, 0.0}, {0.5000000000000001, 1}, {1.4999999999999998, 1}, {1.5000000000000002, 2},
            {2.4999999999999996, 2}, {2.5000000000000004, 3}, {TINY, 0.0}, {BELOW_MOST, MOST}, {999999999999999.5, MOST}, {MOST, MOST},
            {999999999999998.5, 999999999999998.0}, {4294967297.5, 4294967298.0}};
        for (double[] one : fineOnes) {
            fine(11, -5, one[0], one[1]);
            fine(11, -5, -one[0], -one[1]);
        }
        // By the float 0.49999999999999994 is 0.5, and so is what lies just above it: the even one of two.
        rough(11, 5, 0.49999999999999994, 0.0);
        rough(11, 5, 0.5000000000000001, 0.0);
        rough(11, 5, 1.4999999999999998, 2);
    }

    private static void unitsAndLongs() {
        checks.sentence("12 1, -1, or y if that is 0 (or -0), 13 y cast to long, as a double.");
        double[][] units = {{0.0, 0.0}, {-0.0, -0.0}, {LEAST_FLOAT, 1}, {-LEAST_FLOAT, -1}, {0.5, 1}, {-0.5, -1}, {1, 1}, {-1, -1},
            {MOST_FLOAT, 1}, {-MOST_FLOAT, -1}};
        for (double[] one : units) {
            both(12, 5, one[0], one[1]);
        }
        fine(12, 5, TINY, 1);
        fine(12, 5, -TINY, -1);
        double[][] longs = {{0.0, 0.0}, {-0.0, 0.0}, {0.875, 0.0}, {-0.875, 0.0}, {1, 1}, {-1, -1}, {1.875, 1}, {-1.875, -1},
            {4294967296.0, 4294967296.0}, {-4294967296.0, -4294967296.0}, {MOST_FLOAT, MOST_FLOAT}, {-MOST_FLOAT, -MOST_FLOAT}};
        for (double[] one : longs) {
            both(13, 5, one[0], one[1]);
        }
        fine(13, 5, BELOW_ONE, 0.0);
        fine(13, 5, -BELOW_ONE, 0.0);
        fine(13, 5, BELOW_MOST, 999999999999999.0);
        fine(13, 5, -BELOW_MOST, -999999999999999.0);
        fine(13, 5, MOST, MOST);
        fine(13, 5, -MOST, -MOST);
        rough(13, 5, BELOW_ONE, 1);
        rough(13, 5, 16777217, 16777216);
        rough(13, 5, -MOST, -MOST_FLOAT);
    }

    private static void roughCasts() {
        checks.sentence("ROUGH: x and y are cast to float first");
        rough(0, 16777217, 0.0, 16777216);
        rough(0, 16777219, 0.0, 16777220);
        rough(0, 0.0, 16777217, 16777216);
        rough(1, 0.0, 16777217, -16777216);
        // The one that is not changed by the sum is cast, too.
        rough(5, 16777217, 16777218, 16777216);
        rough(6, 16777217, 16777215, 16777216);
        rough(7, 16777217, -1, -16777216);
        rough(7, MOST, HALF_LEAST_FLOAT, MOST_FLOAT);
        rough(7, MOST, -HALF_LEAST_FLOAT, -MOST_FLOAT);
        rough(8, 1, -0.1, 0.10000000149011612);
        rough(9, 1, BELOW_ONE, 1);
        rough(10, 1, 1.0000000000000002, 1);
        rough(12, 1, HALF_LEAST_FLOAT, 0.0);
        rough(12, 1, -HALF_LEAST_FLOAT, -0.0);
        rough(12, 1, Math.nextUp(HALF_LEAST_FLOAT), 1);
        rough(5, 0.0, -TINY, -0.0);
        rough(6, -0.0, TINY, 0.0);
    }

    private static void roughSums() {
        checks.sentence("all is done by floats (9 to 11 by the double that the float is; 13 the float cast to long), the float (or double) is the new double.");
        rough(0, 16777216, 1, 16777216);
        rough(0, 16777216, 1.125, 16777218);
        rough(0, 0.1, 0.2, 0.1f + 0.2f);
        rough(1, 0.3, 0.1, 0.3f - 0.1f);
        rough(1, -16777216, 1, -16777216);
        rough(2, 0.1, 0.1, 0.1f * 0.1f);
        rough(2, 4097, 4097, 16785408);
        rough(2, LEAST_FLOAT, 0.5, 0.0);
        rough(2, LEAST_FLOAT, 0.75, LEAST_FLOAT);
        rough(2, -LEAST_FLOAT, 0.5, -0.0);
        rough(2, 1e-30, -1e-30, -0.0);
        rough(3, 1, 10, 0.1f);
        rough(3, 2, 3, 2f / 3f);
    }

    private static void roughOfOne() {
        rough(9, 1, 8388607.5, 8388607);
        rough(10, 1, 8388607.5, 8388608);
        rough(11, 1, -8388607.5, -8388608);
        rough(9, 1, -0.1, -1);
        rough(10, 1, -0.1, -0.0);
        rough(11, 1, -0.1, -0.0);
        rough(13, 1, -0.1, 0.0);
        // x does not matter to what is of y alone, though it is at the end of what a dial holds.
        for (int one = 8; one <= 13; one++) {
            both(one, MOST, 2, one == 12 ? 1 : 2);
            both(one, -MOST, 0.0, 0.0);
        }
    }

    private static void zeros() {
        checks.sentence("3, 4: ZERO, if y (of ROUGH as a float) is 0.");
        for (int divides = 3; divides <= 4; divides++) {
            for (double x : new double[] {0.0, -0.0, 1, -MOST}) {
                fails(FINE, divides, x, 0.0, ZERO);
                fails(FINE, divides, x, -0.0, ZERO);
                fails(ROUGH, divides, x, 0.0, ZERO);
                fails(ROUGH, divides, x, -0.0, ZERO);
                fails(ROUGH, divides, x, TINY, ZERO);
                fails(ROUGH, divides, x, HALF_LEAST_FLOAT, ZERO);
                fails(ROUGH, divides, x, -HALF_LEAST_FLOAT, ZERO);
            }
            // The first that is not 0 as a float, and by doubles the least one.
            double first = Math.nextUp(HALF_LEAST_FLOAT);
            rough(divides, 0.0, first, 0.0);
            rough(divides, LEAST_FLOAT, first, divides == 3 ? 1 : 0.0);
            fine(divides, 0.0, TINY, 0.0);
            fine(divides, TINY, TINY, divides == 3 ? 1 : 0.0);
            fine(divides, HALF_LEAST_FLOAT, HALF_LEAST_FLOAT, divides == 3 ? 1 : 0.0);
        }
        // No other sum minds a 0.
        for (int sum = 0; sum <= 13; sum++) {
            if (sum != 3 && sum != 4) {
                both(sum, 0.0, 0.0, 0.0);
            }
        }
    }

    private static void ranges() {
        checks.sentence("Then RANGE, if it is beyond what a dial may hold.");
        // The next float above the most that a dial holds is beyond.
        double between = 67108864;
        rough(0, MOST_FLOAT, between / 2 - 4, MOST_FLOAT);
        fails(ROUGH, 0, MOST_FLOAT, between, RANGE);
        fails(ROUGH, 0, MOST, between, RANGE);
        fails(ROUGH, 1, -MOST_FLOAT, between, RANGE);
        rough(1, -MOST_FLOAT, between / 2 - 4, -MOST_FLOAT);
        rough(0, MOST_FLOAT - between, between, MOST_FLOAT);
        fails(ROUGH, 2, MOST_FLOAT, 1.0000001192092896, RANGE);
        fails(ROUGH, 2, -MOST_FLOAT, 1.0000001192092896, RANGE);
        fails(ROUGH, 2, MOST, MOST, RANGE);
        fails(ROUGH, 3, MOST, 0.5, RANGE);
        fails(ROUGH, 3, MOST, LEAST_FLOAT, RANGE);
        fails(ROUGH, 3, -MOST, LEAST_FLOAT, RANGE);
        rough(3, MOST, 1, MOST_FLOAT);
        // The dials themselves are never beyond as floats.
        for (int sum = 5; sum <= 13; sum++) {
            rough(sum, MOST, MOST, sum == 12 ? 1 : MOST_FLOAT);
        }
        rough(5, -MOST, MOST, -MOST_FLOAT);
    }

    private static void zeroBeforeRange() {
        fails(FINE, 3, MOST, 0.0, ZERO);
        fails(ROUGH, 3, MOST, TINY, ZERO);
        fails(FINE, 3, MOST, TINY, RANGE);
        fails(ROUGH, 3, MOST, Math.nextUp(HALF_LEAST_FLOAT), RANGE);
        fails(WIDE, 3, MOST, 0.0, ZERO);
    }

    private static void wholes() {
        checks.sentence("WHOLE: with x, y cast to int: 0 x + y, 1 x - y, 2 x * y (they wrap)");
        double most = 2147483647;
        double least = -2147483648;
        sum(WHOLE, 0, most - 1, 1, most);
        sum(WHOLE, 0, most, 1, least);
        sum(WHOLE, 0, least, -1, most);
        sum(WHOLE, 1, least + 1, 1, least);
        sum(WHOLE, 1, least, 1, most);
        sum(WHOLE, 1, most, -1, least);
        sum(WHOLE, 1, 0, least, least);
        sum(WHOLE, 2, 46340, 46340, 2147395600);
        sum(WHOLE, 2, 46341, 46341, -2147479015);
        sum(WHOLE, 2, 65536, 32767, 2147418112);
        sum(WHOLE, 2, 65536, 32768, least);
        sum(WHOLE, 2, 65536, 65536, 0);
        sum(WHOLE, 2, least, -1, least);
        // Cut off toward 0, and at the ends of int.
        sum(WHOLE, 0, 1.875, 1.875, 2);
        sum(WHOLE, 0, -1.875, -1.875, -2);
        sum(WHOLE, 0, -0.0, -0.875, 0.0);
        sum(WHOLE, 0, most + 1, 0, most);
        sum(WHOLE, 0, most + 1, 1, least);
        sum(WHOLE, 0, least - 1, 0, least);
        sum(WHOLE, 1, MOST, MOST, 0);
        sum(WHOLE, 1, MOST, -MOST, -1);
        sum(WHOLE, 0, 4294967296.0, 0, most);
        sum(WHOLE, 2, -3, 0, 0.0);
    }

    private static void wholeDivisions() {
        checks.sentence("3 x / y, 4 x % y (cut off toward 0; ZERO if y is 0)");
        for (int what = WHOLE; what <= WIDE; what++) {
            double[][] due = {{7, 2, 3, 1}, {-7, 2, -3, -1}, {7, -2, -3, 1}, {-7, -2, 3, -1}, {1, 2, 0, 1}, {-1, 2, 0, -1}, {2, 2, 1, 0},
                {-2, 2, -1, 0}, {0, 5, 0, 0}, {5, 1, 5, 0}, {5, -1, -5, 0}, {7.875, 2.875, 3, 1}, {-7.875, 2.875, -3, -1}, {5, 1.875, 5, 0}};
            for (double[] one : due) {
                sum(what, 3, one[0], one[1], one[2]);
                sum(what, 4, one[0], one[1], one[3]);
            }
            for (double y : new double[] {0.0, -0.0, TINY, BELOW_ONE, -BELOW_ONE}) {
                for (double x : new double[] {0.0, 1, MOST}) {
                    fails(what, 3, x, y, ZERO);
                    fails(what, 4, x, y, ZERO);
                }
            }
            for (int sum : new int[] {0, 1, 2, 5, 6, 7}) {
                sum(what, sum, 0.0, 0.0, 0.0);
            }
        }
        // The least int over -1 wraps.
        sum(WHOLE, 3, -2147483648, -1, -2147483648.0);
        sum(WHOLE, 4, -2147483648, -1, 0.0);
        sum(WIDE, 3, -2147483648, -1, 2147483648.0);
        sum(WHOLE, 3, MOST, 2, 1073741823);
        sum(WHOLE, 4, -MOST, 10, -8);
    }

    private static void bits() {
        checks.sentence("5 x and y, 6 x or y, 7 either alone, bit by bit.");
        for (int what = WHOLE; what <= WIDE; what++) {
            sum(what, 5, 12, 10, 8);
            sum(what, 6, 12, 10, 14);
            sum(what, 7, 12, 10, 6);
            sum(what, 5, -1, 10, 10);
            sum(what, 6, -16, 10, -6);
            sum(what, 7, -1, 10, -11);
            sum(what, 5, -1, -1, -1);
            sum(what, 7, -1, -1, 0.0);
            sum(what, 5, 2147483647, -2147483648, 0);
            sum(what, 6, 2147483647, -2147483648, -1);
            sum(what, 7, 2147483647, -1, -2147483648);
            sum(what, 5, -0.875, -1, 0.0);
        }
        sum(WHOLE, 5, MOST, -1, 2147483647);
        sum(WHOLE, 6, -MOST, 1, -2147483647);
        sum(WHOLE, 7, 4294967296.0, 1, 2147483646);
        sum(WIDE, 7, 4294967296.0, 1, 4294967297.0);
        sum(WIDE, 5, 4294967297.0, 8589934593.0, 1);
        sum(WIDE, 6, 4294967296.0, 8589934592.0, 12884901888.0);
    }

    private static void wides() {
        checks.sentence("WIDE: likewise by longs;");
        sum(WIDE, 0, 2147483647, 1, 2147483648.0);
        sum(WIDE, 1, -2147483648, 1, -2147483649.0);
        sum(WIDE, 2, 65536, 65536, 4294967296.0);
        sum(WIDE, 0, 1.875, 1.875, 2);
        sum(WIDE, 0, -0.0, -0.875, 0.0);
        sum(WIDE, 3, MOST, 7, 142857142857142.0);
        sum(WIDE, 4, MOST, 7, 6);
        sum(WIDE, 4, -MOST, 7, -6);
        sum(WIDE, 3, MOST, -1, -MOST);
        // The product wraps: 2 to the 64th is 0, and what is left of it may be within a dial's ends again.
        sum(WIDE, 2, 4294967296.0, 4294967296.0, 0);
        sum(WIDE, 2, 4294967296.0, 4294967297.0, 4294967296.0);
        sum(WIDE, 2, 4294967295.0, 4294967296.0, -4294967296.0);
    }

    private static void wideRange() {
        checks.sentence("then RANGE, if, as a double, it is beyond.");
        sum(WIDE, 0, 999999999999999.0, 1, MOST);
        sum(WIDE, 0, MOST, 0.875, MOST);
        fails(WIDE, 0, MOST, 1, RANGE);
        sum(WIDE, 1, -999999999999999.0, 1, -MOST);
        fails(WIDE, 1, -MOST, 1, RANGE);
        fails(WIDE, 0, -MOST, -1, RANGE);
        fails(WIDE, 1, MOST, -1, RANGE);
        sum(WIDE, 2, 100000000, 10000000, MOST);
        sum(WIDE, 2, -100000000, 10000000, -MOST);
        sum(WIDE, 2, 142857142857142.0, 7, 999999999999994.0);
        fails(WIDE, 2, 142857142857143.0, 7, RANGE);
        fails(WIDE, 2, 142857142857143.0, -7, RANGE);
        fails(WIDE, 2, MOST, 2, RANGE);
        fails(WIDE, 2, 4294967296.0, 2147483648.0, RANGE);
        sum(WIDE, 6, MOST, 0, MOST);
        fails(WIDE, 6, MOST, 1, RANGE);
        sum(WIDE, 7, 999999999999999.0, -1, -MOST);
        fails(WIDE, 7, MOST, -1, RANGE);
        sum(WIDE, 5, -999999999999999.0, -2, -MOST);
        sum(WIDE, 5, -MOST, -32768, -MOST);
        fails(WIDE, 5, -MOST, -65536, RANGE);
    }

    /** The dial that becomes the sum may be both of its numbers. */
    private static void oneDialForBoth() {
        double[] due = {6, 0, 9, 1, 0, 3, 3, 3, 3, 3, 3, 3, 1, 3};
        for (int what = FINE; what <= ROUGH; what++) {
            for (int sum = 0; sum <= 13; sum++) {
                Script s = new Script(checks).add(SET, 7, 24).add(what, sum, 7, 7).runs(0);
                checks.due("step(" + what + ", " + sum + ", 7, 7) of 3", s.x.dial(7), due[sum]);
            }
        }
        double[] dueWhole = {6, 0, 9, 1, 0, 3, 3, 0};
        for (int what = WHOLE; what <= WIDE; what++) {
            for (int sum = 0; sum <= 7; sum++) {
                Script s = new Script(checks).add(SET, 7, 24).add(what, sum, 7, 7).runs(0);
                checks.due("step(" + what + ", " + sum + ", 7, 7) of 3", s.x.dial(7), dueWhole[sum]);
            }
        }
    }

    private static void everyDial() {
        checks.sentence("FINE, by doubles: dial b becomes: with x, y the doubles of dials b, c:");
        for (int what = FINE; what <= WIDE; what++) {
            for (int b = 0; b < 8; b++) {
                for (int c = 0; c < 8; c++) {
                    Script s = new Script(checks);
                    for (int d = 0; d < 8; d++) {
                        s.add(SET, d, 8 << d);
                    }
                    // Dial d is 2 to the d: the difference tells which were taken, and in which order.
                    s.add(what, 1, b, c).runs(0);
                    for (int d = 0; d < 8; d++) {
                        checks.due("dial(" + d + ") behind step(" + what + ", 1, " + b + ", " + c + ")", s.x.dial(d), d == b ? (1 << b) - (1 << c) : 1 << d);
                    }
                }
            }
        }
    }
}
