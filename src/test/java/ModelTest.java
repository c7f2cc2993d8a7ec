import java.util.Random;

/** All promises: random runs of calls, each answered by the class as the model answers it. */
public final class ModelTest {
    private static final int OBJECTS = 6000;
    private static final int CALLS = 512;

    // How often each step is tried, by its number: what makes faults and blocks comes more often.
    private static final int[] OFTEN = {14, 8, 10, 5, 5, 2, 2, 4, 3, 5, 5, 5, 5, 6, 2, 3, 5, 6, 4, 8, 10, 8, 6, 6, 5};
    private static final int[] EIGHTHS = {0, 1, -1, 4, -4, 8, -8, 12, -12, 20, 16, 24, 64, 128, 136, 800, -800, 2400,
        1 << 20, 524289, 262145, -262145, Integer.MAX_VALUE, Integer.MIN_VALUE, 7, -7};

    private final Random random;
    private final Checks checks;
    private final GaugeBench bench = new GaugeBench();
    private final Model model = new Model();
    private final StringBuilder calls = new StringBuilder();
    private final int wrongInputs;

    ModelTest(Random random, Checks checks, int wrongInputs) {
        this.random = random;
        this.checks = checks;
        this.wrongInputs = wrongInputs;
    }

    public static void main(String[] args) {
        Checks checks = new Checks("model");
        for (int seed = 0; seed < OBJECTS && !checks.isAnyWrong(); seed++) {
            ModelTest test = new ModelTest(new Random(seed), checks, seed % 3 == 0 ? 15 : 500);
            test.makeCalls();
            if (checks.isAnyWrong()) {
                System.out.println("seed " + seed + ":" + test.calls);
            }
        }
        checks.end();
    }

    private void makeCalls() {
        int call = 0;
        while (call < CALLS && !checks.isAnyWrong()) {
            int kind = random.nextInt(100);
            if (kind < 3) {
                choose(random.nextInt(wrongInputs) == 0 ? random.nextInt(12) - 4 : random.nextInt(4));
                call++;
            } else if (kind < 5) {
                say("clear()");
                checks.due("clear()", bench.clear(), model.clear());
                call++;
            } else if (kind < 12) {
                call += closeBlocks();
                run();
                call++;
            } else if (kind < 13) {
                run();
                call++;
            } else {
                randomStep();
                call++;
            }
        }
        compareState();
    }

    private void choose(int r) {
        say("choose(" + r + ")");
        checks.due("choose(" + r + ")", bench.choose(r), model.choose(r));
    }

    private int closeBlocks() {
        int ends = 0;
        while (model.countOf(1) > 0 && model.countOf(0) < 40) {
            step(0, 0, 0, 0);
            ends++;
        }
        if (model.countOf(1) > 0) {
            checks.due("clear()", bench.clear(), model.clear());
        }
        return ends;
    }

    private void run() {
        say("run()");
        checks.due("run()", bench.run(), model.run());
        compareState();
    }

    private void randomStep() {
        int what = random.nextInt(wrongInputs) == 0 ? random.nextInt(40) - 8 : anyOften();
        step(what, argument(what, 0), argument(what, 1), argument(what, 2));
    }

    private int anyOften() {
        int all = 0;
        for (int often : OFTEN) {
            all += often;
        }
        int at = random.nextInt(all);
        int what = 0;
        while (at >= OFTEN[what]) {
            at -= OFTEN[what];
            what++;
        }
        return what;
    }

    private int argument(int what, int which) {
        if (random.nextInt(wrongInputs) == 0) {
            return random.nextInt(4) == 0 ? random.nextInt() : random.nextInt(30) - 6;
        }
        if (which > 0 && what != 19) {
            return what == 11 && which == 1 ? random.nextInt(4) : random.nextInt(5) == 0 ? random.nextInt(8) : random.nextInt(4);
        }
        if (which > 0) {
            return random.nextInt(4) == 0 ? random.nextInt() : EIGHTHS[random.nextInt(EIGHTHS.length)];
        }
        switch (what) {
            case 2: return 1 + random.nextInt(11);
            case 4: return random.nextInt(7);
            case 7: case 9: return random.nextInt(100);
            case 12: return random.nextInt(4);
            case 13: case 14: case 15: case 16: case 17: return random.nextInt(3) == 0 ? 16 + random.nextInt(2) : random.nextInt(18);
            case 18: return 16 + random.nextInt(2);
            case 20: case 21: return random.nextInt(14);
            case 22: case 23: return random.nextInt(8);
            default: return random.nextInt(5) == 0 ? random.nextInt(8) : random.nextInt(4);
        }
    }

    private void step(int what, int a, int b, int c) {
        String call = "step(" + what + ", " + a + ", " + b + ", " + c + ")";
        say(call);
        checks.due(call, bench.step(what, a, b, c), model.step(what, a, b, c));
    }

    private void say(String call) {
        calls.append(' ').append(call);
    }

    private void compareState() {
        for (int d = -1; d < 9; d++) {
            checks.due("dial(" + d + ")", bench.dial(d), model.dialOf(d));
        }
        for (int w = -1; w < 19; w++) {
            checks.due("size(" + w + ")", bench.size(w), model.size(w));
            for (int i = -1; i < Math.max(model.size(w), 0) + 2; i++) {
                checks.due("value(" + w + ", " + i + ")", bench.value(w, i), model.value(w, i));
                checks.due("isFitted(" + w + ", " + i + ")", bench.isFitted(w, i), model.isFitted(w, i));
            }
        }
        for (int what = -1; what < 7; what++) {
            checks.due("count(" + what + ")", bench.count(what), model.countOf(what));
            checks.due("fault(" + what + ")", bench.fault(what), model.fault(what));
        }
        for (int i = -1; i < model.countOf(3) + 2; i++) {
            checks.due("log(" + i + ")", bench.log(i), model.log(i));
            checks.due("isMinus(" + i + ")", bench.isMinus(i), model.isMinus(i));
        }
    }
}
