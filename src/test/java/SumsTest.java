import java.util.Random;

/** Promises 5 and 6: what FINE, ROUGH, WHOLE, WIDE and IF make of doubles at the edges. */
public final class SumsTest implements Steps {
    private static final double[] EDGES = {
        0.0, -0.0, 0.5, -0.5, 1, -1, 1.5, -1.5, 2.5, -2.5, 3, -7, 0.1, -0.3,
        0.49999999999999994, -0.49999999999999994, 0.5000000000000001, -0.9999999999999999,
        4503599627370.5, -4503599627371.5, 140737488355327.5, -140737488355326.5, 999999999999999.9,
        1e15, -1e15, 999999986991104.0, 16777217, -16777219, 33554434.5,
        Double.MIN_VALUE, -Double.MIN_VALUE, 5 * Double.MIN_VALUE, 2.2250738585072014E-308, -1.1e-308, 1e-300, 3e-200,
        1e-46, 7e-46, -1.4e-45, 1.1754943508222875E-38, -1e-38,
        2147483647, -2147483648, 2147483647.5, 2147483648.0, -2147483649.0, 4294967296.0, 65535.75, -32769,
        3e7, 31622776.601683792, 31622777};

    private static final Checks checks = new Checks("sums");

    public static void main(String[] args) {
        for (double x : EDGES) {
            for (double y : EDGES) {
                everySum(x, y);
            }
        }
        Random random = new Random(7);
        for (int i = 0; i < 1500; i++) {
            everySum(any(random), any(random));
        }
        checks.end();
    }

    /** The double's exponent, then its digits, so that tiny and great ones come as often. */
    private static double any(Random random) {
        while (true) {
            double v = random.nextInt(3) == 0 ? Double.longBitsToDouble(random.nextLong())
                : Math.scalb(random.nextDouble() - 0.5, random.nextInt(160) - 100);
            if (Math.abs(v) <= 1e15) {
                return random.nextInt(4) == 0 ? (double) (float) v : v;
            }
        }
    }

    private static void everySum(double x, double y) {
        Script script = new Script(checks);
        script.load(0, x);
        script.load(1, y);
        script.add(SET, 2, 8).add(MAKE, 14, 2);
        script.add(SET, 2, 0).add(PUT, 14, 2, 0).runs(0).clear();
        for (int what = FINE; what <= WIDE; what++) {
            for (int sum = 0; sum < (what <= ROUGH ? 14 : 8); sum++) {
                oneSum(script, what, sum, x, y);
            }
        }
        for (int how = 0; how < 4; how++) {
            boolean so = how == 0 ? x < y : how == 1 ? x == y : how == 2 ? x != y : x >= y;
            script.add(IF, 0, how, 1).add(THROW, 1).add(END).runs(so ? 9 : 0).clear();
        }
    }

    /** Dial 2 becomes x and then the sum; dial 0 stays x. */
    private static void oneSum(Script script, int what, int sum, double x, double y) {
        int fault = 0;
        double due = x;
        try {
            due = sumOf(what, sum, x, y);
            if (Math.abs(due) > 1e15) {
                fault = 8;
                due = x;
            }
        } catch (Model.Zero zero) {
            fault = 7;
        }
        String call = "step(" + what + ", " + sum + ", x, y) of " + x + ", " + y;
        checks.due(call, script.x.step(SET, 2, 0, 0), 1);
        script.x.step(GET, 14, 2, 2);
        script.x.step(what, sum, 2, 1);
        checks.due(call + ": run()", script.x.run(), fault);
        checks.due(call + ": dial(2)", script.x.dial(2), due);
        script.x.clear();
    }

    private static double sumOf(int what, int sum, double x, double y) {
        switch (what) {
            case FINE: return Model.fine(0, sum, x, y);
            case ROUGH: return Model.rough(0, sum, (float) x, (float) y);
            case WHOLE: return Model.whole(0, sum, (int) x, (int) y);
            default: return Model.wide(0, sum, (long) x, (long) y);
        }
    }
}
