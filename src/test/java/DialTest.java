/** Promise 6: dial, and what SET and COUNT make of dials. */
public final class DialTest implements Steps {
    private static final Checks checks = new Checks("promise 6");

    public static void main(String[] args) {
        noSuchDial();
        sets();
        counted();
        checks.end();
    }

    private static void noSuchDial() {
        Script s = new Script(checks);
        for (int d = 0; d < 8; d++) {
            s.add(SET, d, 8 * d + 1);
        }
        s.runs(0);
        for (int d = 0; d < 8; d++) {
            checks.due("dial(" + d + ")", s.x.dial(d), d + 0.125);
        }
        int[] none = {-1, 8, 9, Integer.MIN_VALUE, Integer.MAX_VALUE};
        for (int d : none) {
            checks.due("dial(" + d + ")", s.x.dial(d), 0.0);
        }
    }

    private static void sets() {
        int[] eighths = {0, 1, -1, 7, 8, -9, Integer.MAX_VALUE, Integer.MIN_VALUE};
        double[] due = {0.0, 0.125, -0.125, 0.875, 1.0, -1.125, 268435455.875, -268435456.0};
        for (int i = 0; i < due.length; i++) {
            Script s = new Script(checks).add(SET, 4, eighths[i]).runs(0);
            checks.due("dial(4) set to " + eighths[i] + " eighths", s.x.dial(4), due[i]);
        }
    }

    private static void counted() {
        Script s = new Script(checks).add(SET, 0, 40).add(MAKE, 3, 0).add(SET, 0, 0);
        s.add(COUNT, 3, 2).runs(0);
        checks.due("dial(2)", s.x.dial(2), 5.0);
        s.clear().add(MAKE, 4, 0).add(COUNT, 4, 2).runs(0);
        checks.due("dial(2) of a row without places", s.x.dial(2), 0.0);
        s.clear().add(SET, 2, 8).add(COUNT, 5, 2).runs(3);
        checks.due("dial(2) that a MISSING row left", s.x.dial(2), 1.0);
    }
}
