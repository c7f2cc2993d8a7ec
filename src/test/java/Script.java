/** An object of the class, its steps written by their names; each is checked to be taken. */
final class Script implements Steps {
    final GaugeBench x = new GaugeBench();
    private final Checks checks;
    private final int[] written = new int[4];
    private int hand;

    Script(Checks checks) {
        this.checks = checks;
    }

    /** Arguments that are not given are some that no step takes, so that none of them is looked at. */
    Script add(int what, int... given) {
        int a = given.length > 0 ? given[0] : -77;
        int b = given.length > 1 ? given[1] : 1234;
        int c = given.length > 2 ? given[2] : -1;
        written[hand]++;
        checks.due("step(" + what + ", " + a + ", " + b + ", " + c + ")", x.step(what, a, b, c), written[hand]);
        return this;
    }

    /** Steps that count n and do nothing else; they throw nothing, as long as 200 are enough. */
    Script spend(int n) {
        int left = n;
        for (; left >= 49; left -= 49) {
            add(LOOP, 6).add(LOOP, 6).add(END).add(END);
        }
        for (; left >= 7; left -= 7) {
            add(LOOP, 6).add(END);
        }
        for (; left > 0; left--) {
            add(IF, 0, 2, 0).add(END);
        }
        return this;
    }

    Script choose(int routine) {
        hand = routine;
        checks.due("choose(" + routine + ")", x.choose(routine), written[routine]);
        return this;
    }

    Script clear() {
        checks.due("clear()", x.clear(), written[hand]);
        written[hand] = 0;
        return this;
    }

    Script runs(int due) {
        checks.due("run()", x.run(), due);
        return this;
    }

    /** The whole log, and that there is nothing behind it. */
    Script logs(double... due) {
        checks.due("count(3)", x.count(3), due.length);
        for (int i = 0; i < due.length; i++) {
            checks.due("log(" + i + ")", x.log(i), due[i]);
        }
        checks.due("log(" + due.length + ")", x.log(due.length), 0.0);
        return this;
    }

    /** What count(2), count(4) and count(5) answer of the latest run. */
    Script counts(int counted, int caught, int finallies) {
        checks.due("count(2)", x.count(2), counted);
        checks.due("count(4)", x.count(4), caught);
        checks.due("count(5)", x.count(5), finallies);
        return this;
    }

    /** What fault(0) to fault(5) answer. */
    Script faults(int kind, int place, int weight, int number, int earlier, int first) {
        int[] due = {kind, place, weight, number, earlier, first};
        for (int what = 0; what < due.length; what++) {
            checks.due("fault(" + what + ")", x.fault(what), due[what]);
        }
        return this;
    }

    Script noFault() {
        return faults(-1, -1, -1, -1, -1, -1);
    }

    /** Brings a dial to any double that a dial may hold, by SET, FINE and routine 3; uses dial 7. */
    void load(int dial, double v) {
        int before = hand;
        choose(3);
        double size = Math.abs(v);
        int exponent = size == 0 ? 0 : Math.getExponent(size) < Double.MIN_EXPONENT ? -1074 : Math.getExponent(size) - 52;
        long bits = Double.doubleToLongBits(size);
        long digits = size == 0 ? 0 : bits >> 52 == 0 ? bits : (bits & (1L << 52) - 1) | 1L << 52;
        // The digits, as digits / 512, of two halves that SET can take.
        add(SET, dial, (int) (digits >> 26)).add(SET, 7, 1 << 23).add(FINE, 2, dial, 7);
        add(SET, 7, 8 * 64).add(SET, 6, (int) (digits & (1 << 26) - 1)).add(FINE, 3, 6, 7);
        add(FINE, 0, dial, 6);
        int up = exponent + 9;
        int sum = up < 0 ? 3 : 2;
        int times = Math.abs(up);
        add(SET, 7, 8 << times % 27).add(FINE, sum, dial, 7).add(SET, 7, 1 << 30);
        add(LOOP, times / 27 / 6).add(LOOP, 6).add(FINE, sum, dial, 7).add(END).add(END);
        add(LOOP, times / 27 % 6).add(FINE, sum, dial, 7).add(END);
        add(SET, 7, Double.doubleToLongBits(v) < 0 ? -8 : 8).add(FINE, 7, dial, 7);
        add(SET, 6, 0).add(SET, 7, 0);
        runs(0);
        clear();
        checks.due("dial(" + dial + ") that is brought to " + v, x.dial(dial), v);
        choose(before);
    }
}
