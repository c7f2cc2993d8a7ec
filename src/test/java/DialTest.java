/** Promise 6: dial, and what the steps make of dials. */
public final class DialTest {
    private static final Checks checks = new Checks("promise 6");

    public static void main(String[] args) {
        noSuchDial();
        sets();
        limits();
        sums();
        counted();
        checks.end();
    }

    private static void noSuchDial() {
        Script s = new Script(checks);
        for (int d = 0; d < 8; d++) {
            s.add(Script.SET, d, 8 * d + 1);
        }
        s.runs(0);
        for (int d = 0; d < 8; d++) {
            checks.due("dial(" + d + ")", s.x.dial(d), d + 0.125);
        }
        int[] none = {-1, 8, 9, Integer.MIN_VALUE, Integer.MAX_VALUE};
        for (int d : none) {
            checks.due("dial(" + d + ")", s.x.dial(d), 0.0);
        }
    }

    private static void sets() {
        int[] eighths = {0, 1, -1, 7, 8, -9, Integer.MAX_VALUE, Integer.MIN_VALUE};
        double[] due = {0.0, 0.125, -0.125, 0.875, 1.0, -1.125, 268435455.875, -268435456.0};
        for (int i = 0; i < due.length; i++) {
            Script s = new Script(checks).add(Script.SET, 4, eighths[i]).runs(0);
            checks.due("dial(4) set to " + eighths[i] + " eighths", s.x.dial(4), due[i]);
        }
    }

    private static void sum(int what, int sum, double x, double y, double due) {
        Script s = new Script(checks);
        s.load(0, x);
        s.load(1, y);
        s.add(what, sum, 0, 1).runs(0);
        checks.due("step(" + what + ", " + sum + ", 0, 1) of " + x + ", " + y, s.x.dial(0), due);
        checks.due("dial(1), which is only looked at", s.x.dial(1), y);
    }

    private static void sumFails(int what, int sum, double x, double y, int kind) {
        Script s = new Script(checks);
        s.load(0, x);
        s.load(1, y);
        s.add(what, sum, 0, 1).runs(kind);
        checks.due("dial(0) behind the fault", s.x.dial(0), x);
    }

    private static void limits() {
        sum(Script.FINE, 0, 999999999999999.0, 1, 1e15);
        sumFails(Script.FINE, 0, 1e15, 1, 8);
        sum(Script.FINE, 1, -999999999999999.0, 1, -1e15);
        sumFails(Script.FINE, 1, -1e15, 0.125, 8);
        sumFails(Script.FINE, 3, 1, 1e-16, 8);
        sumFails(Script.FINE, 3, 1e15, Double.MIN_VALUE, 8);
        sumFails(Script.FINE, 3, 1e15, 0.0, 7);
        sumFails(Script.FINE, 4, 0.0, -0.0, 7);
        sumFails(Script.ROUGH, 3, 1, 1e-50, 7);
        sumFails(Script.ROUGH, 4, 1, -1e-50, 7);
        sumFails(Script.ROUGH, 3, 1, 1.4e-45, 8);
        sumFails(Script.WHOLE, 3, 1, 0.9, 7);
        sumFails(Script.WHOLE, 4, 1, -0.9, 7);
        sumFails(Script.WIDE, 3, 1, 0.9, 7);
        sumFails(Script.WIDE, 4, 1, 0.9, 7);
        sumFails(Script.WIDE, 0, 1e15, 1, 8);
        sumFails(Script.WIDE, 6, 1e15, 562949953421311.0, 8);
        sumFails(Script.WIDE, 2, 1e9, 1e9, 8);
        sumFails(Script.WIDE, 7, 1e15, -1, 8);
    }

    private static void sums() {
        sum(Script.FINE, 2, -3, 0.0, -0.0);
        sum(Script.FINE, 4, 7.5, 2, 1.5);
        sum(Script.FINE, 4, -7.5, 2, -1.5);
        sum(Script.FINE, 4, 7.5, -2, 1.5);
        sum(Script.FINE, 4, -6, 3, -0.0);
        sum(Script.FINE, 5, 0.0, -0.0, -0.0);
        sum(Script.FINE, 5, -0.0, 0.0, -0.0);
        sum(Script.FINE, 6, 0.0, -0.0, 0.0);
        sum(Script.FINE, 6, -0.0, 0.0, 0.0);
        sum(Script.FINE, 6, 2, 3, 3.0);
        sum(Script.FINE, 7, 5, -0.0, -5.0);
        sum(Script.FINE, 7, -0.0, 3, 0.0);
        sum(Script.FINE, 8, 5, -0.0, 0.0);
        sum(Script.FINE, 9, 5, -0.0, -0.0);
        sum(Script.FINE, 9, 5, -0.125, -1.0);
        sum(Script.FINE, 10, 5, -0.125, -0.0);
        sum(Script.FINE, 10, 5, 0.125, 1.0);
        sum(Script.FINE, 11, 5, 2.5, 2.0);
        sum(Script.FINE, 11, 5, 3.5, 4.0);
        sum(Script.FINE, 11, 5, -0.5, -0.0);
        sum(Script.FINE, 11, 5, 0.49999999999999994, 0.0);
        sum(Script.FINE, 12, 5, -0.0, -0.0);
        sum(Script.FINE, 12, 5, -1e-300, -1.0);
        sum(Script.FINE, 13, 5, -0.9, 0.0);
        sum(Script.FINE, 13, 5, -1.9, -1.0);
        sum(Script.ROUGH, 0, 16777216, 1, 16777216.0);
        sum(Script.ROUGH, 2, 1e-30, -1e-30, -0.0);
        sum(Script.ROUGH, 3, 1, 3, 0.3333333432674408);
        sum(Script.ROUGH, 8, 1, -0.1, 0.10000000149011612);
        sum(Script.ROUGH, 12, 1, -1e-60, -0.0);
        sum(Script.ROUGH, 13, 1, 16777217, 16777216.0);
        sum(Script.WHOLE, 0, 2147483647, 1, -2147483648.0);
        sum(Script.WHOLE, 0, 1e12, 0.5, 2147483647.0);
        sum(Script.WHOLE, 2, 65536, 65536, 0.0);
        sum(Script.WHOLE, 3, -2147483648, -1, -2147483648.0);
        sum(Script.WHOLE, 3, -7.9, 2.9, -3.0);
        sum(Script.WHOLE, 4, -7.9, 2.9, -1.0);
        sum(Script.WHOLE, 4, -8, 2, 0.0);
        sum(Script.WHOLE, 5, 12, 10, 8.0);
        sum(Script.WHOLE, 6, 12, 10, 14.0);
        sum(Script.WHOLE, 7, 12, -1, -13.0);
        sum(Script.WIDE, 0, 2147483647, 1, 2147483648.0);
        sum(Script.WIDE, 2, 4294967296.0, 4294967296.0, 0.0);
        sum(Script.WIDE, 4, -1e15, 7, -6.0);
        sum(Script.WIDE, 7, 999999999999999.0, -1, -1e15);
    }

    private static void counted() {
        Script s = new Script(checks).add(Script.SET, 0, 40).add(Script.MAKE, 3, 0).add(Script.SET, 0, 0);
        s.add(Script.COUNT, 3, 2).runs(0);
        checks.due("dial(2)", s.x.dial(2), 5.0);
        s.clear().add(Script.MAKE, 4, 0).add(Script.COUNT, 4, 2).runs(0);
        checks.due("dial(2) of a row without places", s.x.dial(2), 0.0);
        s.clear().add(Script.SET, 2, 8).add(Script.COUNT, 5, 2).runs(3);
        checks.due("dial(2) that a MISSING row left", s.x.dial(2), 1.0);
    }
}
