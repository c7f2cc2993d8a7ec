/** Counts and prints the answers that are not the ones due; a test ends with its verdict. */
final class Checks {
    private final String test;
    private int made;
    private int wrong;

    Checks(String test) {
        this.test = test;
    }

    void due(String what, long got, long want) {
        made++;
        if (got != want) {
            tell(what, String.valueOf(got), String.valueOf(want));
        }
    }

    /** Bit by bit, so that -0 is not taken for 0. */
    void due(String what, double got, double want) {
        made++;
        if (Double.doubleToLongBits(got) != Double.doubleToLongBits(want)) {
            tell(what, String.valueOf(got), String.valueOf(want));
        }
    }

    void due(String what, boolean got, boolean want) {
        made++;
        if (got != want) {
            tell(what, String.valueOf(got), String.valueOf(want));
        }
    }

    boolean isAnyWrong() {
        return wrong > 0;
    }

    void end() {
        System.out.println(test + ": " + made + " answers, " + wrong + " not as due");
        if (wrong > 0 || made == 0) {
            System.exit(1);
        }
    }

    private void tell(String what, String got, String want) {
        wrong++;
        if (wrong <= 40) {
            System.out.println(test + ": " + what + " answered " + got + ", due is " + want);
        }
    }
}
