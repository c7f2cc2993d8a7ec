/**
 * A bench of gauges: routines of steps work with dials and with rows of nine kinds; what goes
 * wrong is a fault, which tries catch by its kind. The face of the class is here, what it works
 * with is in the classes inside it; the document of the project numbers its promises.
 */
public final class GaugeBench {
    private final Bench bench;

    public GaugeBench() {
        bench = new Bench();
    }

    public int choose(int routine) {
        Routine chosen = bench.routineAt(routine);
        if (chosen == null) {
            return -1;
        }
        bench.atHand = chosen;
        return chosen.used;
    }

    public int step(int what, int a, int b, int c) {
        return Step.isTold(what, a, b, c) ? bench.atHand.append(what, a, b, c) : -1;
    }

    public int clear() {
        return bench.atHand.forget();
    }

    public int run() {
        return bench.atHand.open > 0 ? -1 : bench.begin(bench.atHand);
    }

    public double dial(int d) {
        return bench.dials.at(d);
    }

    public int size(int w) {
        Row row = bench.rowAt(w);
        return row == null ? -2 : row.places;
    }

    public double value(int w, int i) {
        Row row = bench.rowAt(w);
        return row == null ? 0 : row.got(i);
    }

    public boolean isFitted(int w, int i) {
        Row row = bench.rowAt(w);
        return row != null && row.holdsProbe(i);
    }

    public double log(int i) {
        return bench.numbers.at(i);
    }

    public boolean isMinus(int i) {
        return Sums.hasMinus(bench.numbers.at(i));
    }

    public int count(int what) {
        switch (what) {
            case 0: return bench.atHand.used;
            case 1: return bench.atHand.open;
            case 2: return bench.counted;
            case 3: return bench.numbers.used;
            case 4: return bench.caughtFaults;
            case 5: return bench.finallyParts;
            default: return -1;
        }
    }

    public int fault(int what) {
        Fault thrown = bench.thrown;
        if (thrown == null) {
            return -1;
        }
        switch (what) {
            case 0: return thrown.kind;
            case 1: return thrown.place;
            case 2: return thrown.weight;
            case 3: return thrown.number;
            case 4: return thrown.earlierOnes;
            case 5: return thrown.firstPlace;
            default: return -1;
        }
    }

    /** One step as it was written, and its ties to the other steps of its block. */
    static final class Step {
        static final int END = 0;
        static final int TRY = 1;
        static final int CATCH = 2;
        static final int FINALLY = 3;
        static final int LOOP = 4;
        static final int LEAVE = 5;
        static final int RETURN = 6;
        static final int THROW = 7;
        static final int AGAIN = 8;
        static final int WRAP = 9;
        static final int TELL = 10;
        static final int IF = 11;
        static final int CALL = 12;
        static final int MAKE = 13;
        static final int DROP = 14;
        static final int COUNT = 15;
        static final int GET = 16;
        static final int PUT = 17;
        static final int FIT = 18;
        static final int SET = 19;
        static final int FINE = 20;
        static final int ROUGH = 21;
        static final int WHOLE = 22;
        static final int WIDE = 23;
        static final int NOTE = 24;

        // What each argument may be, by the step's number: -1 as the most where it is not looked at.
        private static final int[] LEAST_A = {
            0, 0, 1, 0, 0, 0, 0, 0, 0, 0, 0, 0, 0, 0, 0, 0, 0, 0, 16, 0, 0, 0, 0, 0, 0};
        private static final int[] MOST_A = {
            -1, -1, 11, -1, 6, -1, -1, 99, -1, 99, -1, 7, 3, 17, 17, 17, 17, 17, 17, 7, 13, 13, 7, 7, 7};
        private static final int[] MOST_B = {
            -1, -1, -1, -1, -1, -1, -1, -1, -1, -1, -1, 3, -1, 7, -1, 7, 7, 7, 7, -1, 7, 7, 7, 7, -1};
        private static final int[] MOST_C = {
            -1, -1, -1, -1, -1, -1, -1, -1, -1, -1, -1, 7, -1, -1, -1, -1, 7, 7, -1, -1, 7, 7, 7, 7, -1};

        final int what;
        final int a;
        final int b;
        final int c;
        final int number;
        final int place;
        // Of a block's first step: the number of its END; of any other step: its own number.
        int last;
        // Of a step that begins a part: the step that ends it (CATCH, FINALLY or END).
        Step nextPart;

        Step(int what, int a, int b, int c, int number, int place) {
            this.what = what;
            this.a = a;
            this.b = b;
            this.c = c;
            this.number = number;
            this.place = place;
            last = number;
        }

        static boolean isTold(int what, int a, int b, int c) {
            return what >= END && what <= NOTE
                && isWithin(a, LEAST_A[what], MOST_A[what])
                && isWithin(b, 0, MOST_B[what])
                && isWithin(c, 0, MOST_C[what]);
        }

        private static boolean isWithin(int argument, int least, int most) {
            return most < 0 || (argument >= least && argument <= most);
        }

        int partEnd() {
            return nextPart == null ? number : nextPart.number;
        }

        Step catchPartFor(int kind) {
            for (Step part = nextPart; part != null && part.what == CATCH; part = part.nextPart) {
                if (Fault.isUnder(kind, part.a)) {
                    return part;
                }
            }
            return null;
        }

        Step finallyPart() {
            for (Step part = nextPart; part != null; part = part.nextPart) {
                if (part.what == FINALLY) {
                    return part;
                }
            }
            return null;
        }
    }

    /** A block that is open while its routine is written, with the part of it that is open. */
    static final class Block {
        private static final int MOST_CATCHES = 3;

        final Step opener;
        final Block outer;
        Step part;
        int catches;

        Block(Step opener, Block outer) {
            this.opener = opener;
            this.outer = outer;
            part = opener;
        }

        void beginPart(Step next) {
            part.nextPart = next;
            part = next;
            if (next.what == Step.CATCH) {
                catches++;
            }
        }

        boolean takesPart(int what) {
            return opener.what == Step.TRY && part.what != Step.FINALLY
                && (what != Step.CATCH || catches < MOST_CATCHES);
        }
    }

    /** The steps of a routine, and which steps may stand behind them. */
    static final class Routine {
        private static final int MOST_STEPS = 40;
        private static final int MOST_OPEN = 6;

        private final int number;
        private final Step[] steps;
        private Block innermost;
        int used;
        int open;

        Routine(int number) {
            this.number = number;
            steps = new Step[MOST_STEPS];
        }

        Step stepAt(int i) {
            return i >= 0 && i < used && i < MOST_STEPS ? steps[i] : null;
        }

        int forget() {
            int had = used;
            used = 0;
            open = 0;
            innermost = null;
            return had;
        }

        int append(int what, int a, int b, int c) {
            if (!mayStandHere(what)) {
                return -2;
            }
            if (used < 0 || used >= MOST_STEPS) {
                return -3;
            }
            Step next = new Step(what, a, b, c, used, MOST_STEPS * number + used);
            steps[used] = next;
            used++;
            tieToBlocks(next);
            return used;
        }

        private boolean mayStandHere(int what) {
            switch (what) {
                case Step.END:
                    return innermost != null;
                case Step.CATCH:
                case Step.FINALLY:
                    return innermost != null && innermost.takesPart(what);
                case Step.LEAVE:
                    return mayLeave();
                case Step.RETURN:
                    return !isPartOpen(Step.FINALLY);
                case Step.AGAIN:
                case Step.WRAP:
                case Step.TELL:
                    return isPartOpen(Step.CATCH);
                case Step.TRY:
                case Step.LOOP:
                case Step.IF:
                    return open < MOST_OPEN;
                default:
                    return true;
            }
        }

        private boolean mayLeave() {
            for (Block block = innermost; block != null; block = block.outer) {
                if (block.opener.what == Step.LOOP) {
                    return true;
                }
                if (block.part.what == Step.FINALLY) {
                    return false;
                }
            }
            return false;
        }

        private boolean isPartOpen(int what) {
            for (Block block = innermost; block != null; block = block.outer) {
                if (block.part.what == what) {
                    return true;
                }
            }
            return false;
        }

        private void tieToBlocks(Step next) {
            switch (next.what) {
                case Step.TRY:
                case Step.LOOP:
                case Step.IF:
                    innermost = new Block(next, innermost);
                    open++;
                    break;
                case Step.CATCH:
                case Step.FINALLY:
                    if (innermost != null) {
                        innermost.beginPart(next);
                    }
                    break;
                case Step.END:
                    closeInnermost(next);
                    break;
                default:
                    break;
            }
        }

        private void closeInnermost(Step end) {
            if (innermost != null) {
                innermost.beginPart(end);
                innermost.opener.last = end.number;
                innermost = innermost.outer;
                open--;
            }
        }
    }

    /** What went wrong; it never changes, so that AGAIN can throw it as it is. */
    static final class Fault {
        static final int NONE = 0;
        static final int MISSING = 3;
        static final int PLACE = 4;
        static final int SIZE = 5;
        static final int ZERO = 7;
        static final int RANGE = 8;
        static final int OWN = 9;
        static final int TIRED = 10;
        static final int WRAPPED = 11;

        // By a kind's number: the kind that it stands right below, 0 for FAULT itself.
        private static final int[] ABOVE = {0, 0, 1, 2, 2, 2, 1, 6, 6, 1, 1, 9};

        final int kind;
        final int place;
        final int number;
        final int earlierOnes;
        final int firstPlace;
        final int weight;

        Fault(int kind, int place, int number, Fault earlier) {
            this.kind = kind;
            this.place = place;
            this.number = number;
            // Of the earlier ones only these are ever asked for, so the chain itself is not kept.
            earlierOnes = earlier == null ? 0 : earlier.earlierOnes + 1;
            firstPlace = earlier == null ? place : earlier.firstPlace;
            weight = weightOf(kind, number, earlier == null ? 1 : 1 + earlier.weight);
        }

        private static int weightOf(int kind, int number, int plain) {
            switch (kind) {
                case MISSING: return plain + 10;
                case SIZE: return 3 * plain;
                case ZERO: return plain + 100;
                case RANGE: return plain + 105;
                case OWN: return plain + number;
                case WRAPPED: return 2 * (plain + number);
                default: return plain;
            }
        }

        static boolean isUnder(int kind, int upper) {
            int one = kind;
            for (int up = 0; up < ABOVE.length && one > 0 && one < ABOVE.length; up++) {
                if (one == upper) {
                    return true;
                }
                one = ABOVE[one];
            }
            return false;
        }
    }

    /** The dials, none of which is ever given a double that it may not hold. */
    static final class Dials {
        private static final int DIALS = 8;
        private static final long MOST = 1000000000000000L;

        private final double[] doubles;

        Dials() {
            doubles = new double[DIALS];
        }

        double at(int d) {
            return d >= 0 && d < DIALS ? doubles[d] : 0;
        }

        int wholeAt(int d) {
            return (int) at(d);
        }

        /** Answers the kind of the fault, if it is one. */
        int turn(int d, double to) {
            if (to > MOST || to < -MOST) {
                return Fault.RANGE;
            }
            if (d >= 0 && d < DIALS) {
                doubles[d] = to;
            }
            return Fault.NONE;
        }
    }

    /**
     * A row of one kind. Each place keeps the double that is got from it: no number that a dial can
     * put into a place of any kind is lost by that, and the room is taken once and used again.
     */
    static final class Row {
        static final int MOST_PLACES = 16;
        private static final int MISSING = -1;
        private static final int FLAGS = 0;
        private static final int BYTES = 1;
        private static final int CHARS = 2;
        private static final int SHORTS = 3;
        private static final int INTS = 4;
        private static final int LONGS = 5;
        private static final int FLOATS = 6;
        private static final int PROBES = 8;

        private final int kind;
        private final double[] doubles;
        // Whether a place can be got from and put into: a place of PROBES only while it holds one.
        private final boolean[] ready;
        int places;

        Row(int kind) {
            this.kind = kind;
            doubles = new double[MOST_PLACES];
            ready = new boolean[MOST_PLACES];
            places = MISSING;
        }

        /** Answers the kind of the fault, if it is one; so do the others that answer an int. */
        int make(int size) {
            if (size > MOST_PLACES) {
                return Fault.RANGE;
            }
            if (size < 0) {
                return Fault.SIZE;
            }
            for (int i = 0; i < size; i++) {
                doubles[i] = 0;
                ready[i] = kind != PROBES;
            }
            places = size;
            return Fault.NONE;
        }

        void drop() {
            places = MISSING;
        }

        /** Only a place that is to be fitted need not be ready. */
        int faultAt(int i, boolean toFit) {
            if (places < 0) {
                return Fault.MISSING;
            }
            if (i < 0 || i >= places || i >= MOST_PLACES) {
                return Fault.PLACE;
            }
            return toFit || ready[i] ? Fault.NONE : Fault.MISSING;
        }

        double got(int i) {
            return faultAt(i, false) == Fault.NONE ? doubles[i] : 0;
        }

        int put(int i, double from) {
            int fault = faultAt(i, false);
            if (fault == Fault.NONE) {
                doubles[i] = asHeld(from);
            }
            return fault;
        }

        int fit(int i) {
            int fault = faultAt(i, true);
            if (fault == Fault.NONE) {
                doubles[i] = 0;
                ready[i] = true;
            }
            return fault;
        }

        boolean holdsProbe(int i) {
            return kind == PROBES && faultAt(i, false) == Fault.NONE;
        }

        private double asHeld(double from) {
            switch (kind) {
                case FLAGS: return from != 0 ? 1 : 0;
                case BYTES: return (byte) (int) from;
                case CHARS: return (char) (int) from;
                case SHORTS: return (short) (int) from;
                case INTS: return (int) from;
                case LONGS: return (long) from;
                case FLOATS: return (float) from;
                default: return from;
            }
        }
    }

    /** The LOG: as long as the most that the steps of one run can append, four by each. */
    static final class NumberLog {
        private static final int MOST_NUMBERS = 4 * Bench.MOST_COUNTED;

        private final double[] doubles;
        int used;

        NumberLog() {
            doubles = new double[MOST_NUMBERS];
        }

        void empty() {
            used = 0;
        }

        void append(double number) {
            if (used >= 0 && used < MOST_NUMBERS) {
                doubles[used] = number;
                used++;
            }
        }

        double at(int i) {
            return i >= 0 && i < used && i < MOST_NUMBERS ? doubles[i] : 0;
        }
    }

    /** The sums of FINE, ROUGH, WHOLE and WIDE, by their numbers. */
    static final class Sums {
        private static final int QUOTIENT = 3;
        private static final int REST = 4;
        // From the least double above 0 to the most that a dial holds are some 1124 doublings.
        private static final int MOST_DOUBLINGS = 1200;

        static boolean divides(int sum) {
            return sum == QUOTIENT || sum == REST;
        }

        /** Where it divides, y is not 0. */
        static double fine(int sum, double x, double y) {
            switch (sum) {
                case 0: return x + y;
                case 1: return x - y;
                case 2: return x * y;
                case QUOTIENT: return x / y;
                case REST: return rest(x, y);
                case 5: return isLess(x, y) ? x : y;
                case 6: return isLess(x, y) ? y : x;
                case 7: return hasMinus(x) == hasMinus(y) ? x : -x;
                case 8: return hasMinus(y) ? -y : y;
                case 9: return wholeBelow(y);
                case 10: return -wholeBelow(-y);
                case 11: return nearestWhole(y);
                case 12: return y > 0 ? 1 : y < 0 ? -1 : y;
                default: return (long) y;
            }
        }

        /** Behind QUOTIENT floats leave just what their doubles do, so FINE's sums do for them. */
        static boolean roundsFloats(int sum) {
            return sum <= QUOTIENT;
        }

        /** The sums that round floats. Where it divides, y is not 0. */
        static float rough(int sum, float x, float y) {
            switch (sum) {
                case 0: return x + y;
                case 1: return x - y;
                case 2: return x * y;
                default: return x / y;
            }
        }

        /** What an int keeps when it wraps are just the lower bits of the long. */
        static int whole(int sum, int x, int y) {
            return (int) wide(sum, x, y);
        }

        static long wide(int sum, long x, long y) {
            switch (sum) {
                case 0: return x + y;
                case 1: return x - y;
                case 2: return x * y;
                case QUOTIENT: return y == 0 ? 0 : x / y;
                case REST: return y == 0 ? 0 : x % y;
                case 5: return x & y;
                case 6: return x | y;
                default: return x ^ y;
            }
        }

        /** Only a division tells -0 from 0. */
        static boolean hasMinus(double x) {
            return x < 0 || (x == 0 && 1 / x < 0);
        }

        /** Of two that are like, only 0 and -0 are told apart by this. */
        private static boolean isLess(double x, double y) {
            return x < y || (x == y && 1 / x < 0);
        }

        /** No dial is so great that a long could not hold its whole number. */
        private static double wholeBelow(double y) {
            if (y == 0) {
                return y;
            }
            double whole = (long) y;
            return whole > y ? whole - 1 : whole;
        }

        private static double nearestWhole(double y) {
            if (y == 0) {
                return y;
            }
            // Without its sign y loses nothing when its whole part is taken from it.
            double size = y < 0 ? -y : y;
            long whole = (long) size;
            double over = size - whole;
            if (over > 0.5 || (over == 0.5 && whole % 2 == 1)) {
                whole++;
            }
            double nearest = whole;
            return y < 0 ? -nearest : nearest;
        }

        /** Doubling and taking away are exact here, as a quotient would not be. */
        private static double rest(double x, double y) {
            if (x == 0) {
                return x;
            }
            double divisor = y < 0 ? -y : y;
            double left = x < 0 ? -x : x;
            double multiple = divisor;
            int doublings = 0;
            while (doublings < MOST_DOUBLINGS && multiple + multiple <= left) {
                multiple = multiple + multiple;
                doublings++;
            }
            for (int i = doublings; i >= 0 && left >= divisor; i--) {
                if (left >= multiple) {
                    left = left - multiple;
                }
                multiple = multiple / 2;
            }
            return x < 0 ? -left : left;
        }
    }

    /** All that the steps work with; does runs, and keeps what is to be told of the latest one. */
    static final class Bench {
        private static final int ROUTINES = 4;
        private static final int ROWS = 18;
        static final int MOST_COUNTED = 200;
        private static final int MOST_CALLS = 4;
        private static final int MOST_EARLIER = 5;

        // How steps are left.
        private static final int AT_END = 0;
        private static final int BY_LEAVE = 1;
        private static final int BY_RETURN = 2;
        private static final int BY_FAULT = 3;

        private final Routine[] routines;
        private final Row[] rows;
        final Dials dials;
        final NumberLog numbers;
        Routine atHand;
        int counted;
        int caughtFaults;
        int finallyParts;
        // The fault that goes on, null while none does; behind a run the one thrown out of it.
        Fault thrown;

        Bench() {
            atHand = new Routine(0);
            routines = new Routine[ROUTINES];
            routines[0] = atHand;
            for (int r = 1; r < ROUTINES; r++) {
                routines[r] = new Routine(r);
            }
            rows = new Row[ROWS];
            for (int w = 0; w < ROWS; w++) {
                rows[w] = new Row(w / 2);
            }
            dials = new Dials();
            numbers = new NumberLog();
        }

        Routine routineAt(int r) {
            return r >= 0 && r < routines.length ? routines[r] : null;
        }

        Row rowAt(int w) {
            return w >= 0 && w < rows.length ? rows[w] : null;
        }

        int begin(Routine routine) {
            numbers.empty();
            counted = 0;
            caughtFaults = 0;
            finallyParts = 0;
            thrown = null;
            doSteps(routine, 0, routine.used, null, 0);
            return thrown == null ? 0 : thrown.kind;
        }

        /** A routine's steps from one up to, not with, another. Blocks and calls nest by its limits. */
        private int doSteps(Routine routine, int from, int to, Fault caught, int calls) {
            int at = from;
            while (at < to) {
                Step step = routine.stepAt(at);
                if (step == null) {
                    return AT_END;
                }
                int left = doStep(routine, step, caught, calls);
                if (left != AT_END) {
                    return left;
                }
                at = Math.max(at, step.last) + 1;
            }
            return AT_END;
        }

        private int doStep(Routine routine, Step step, Fault caught, int calls) {
            if (!isCounted()) {
                return throwNew(Fault.TIRED, step);
            }
            switch (step.what) {
                case Step.TRY:
                    return doTry(routine, step, caught, calls);
                case Step.LOOP:
                    return doLoop(routine, step, caught, calls);
                case Step.IF:
                    return isSo(step) ? doPart(routine, step, caught, calls) : AT_END;
                case Step.CALL:
                    return doCall(step, calls);
                case Step.LEAVE:
                    return BY_LEAVE;
                case Step.RETURN:
                    return BY_RETURN;
                case Step.THROW:
                    return leaveBy(new Fault(Fault.OWN, step.place, step.a, null));
                case Step.AGAIN:
                case Step.WRAP:
                case Step.TELL:
                    return caught == null ? AT_END : useCaught(step, caught);
                default:
                    return throwNew(step.what < Step.SET ? workWithRow(step) : workWithDials(step), step);
            }
        }

        private boolean isCounted() {
            if (counted >= MOST_COUNTED) {
                return false;
            }
            counted++;
            return true;
        }

        /** A fault of that kind, unless there is none. */
        private int throwNew(int kind, Step step) {
            return kind == Fault.NONE ? AT_END : leaveBy(new Fault(kind, step.place, 0, null));
        }

        private int leaveBy(Fault fault) {
            thrown = fault;
            return BY_FAULT;
        }

        private int doPart(Routine routine, Step first, Fault caught, int calls) {
            return doSteps(routine, first.number + 1, first.partEnd(), caught, calls);
        }

        private int doTry(Routine routine, Step first, Fault caught, int calls) {
            int left = doPart(routine, first, caught, calls);
            Fault fault = thrown;
            Step catchPart = fault == null ? null : first.catchPartFor(fault.kind);
            if (catchPart != null) {
                thrown = null;
                caughtFaults++;
                left = doPart(routine, catchPart, fault, calls);
            }
            Step finallyPart = first.finallyPart();
            return finallyPart == null ? left : doFinally(routine, finallyPart, left, caught, calls);
        }

        private int doFinally(Routine routine, Step part, int before, Fault caught, int calls) {
            Fault goingOn = thrown;
            thrown = null;
            finallyParts++;
            int left = doPart(routine, part, caught, calls);
            if (left != AT_END) {
                return left;
            }
            thrown = goingOn;
            return before;
        }

        private int doLoop(Routine routine, Step first, Fault caught, int calls) {
            for (int round = 0; round < first.a; round++) {
                if (!isCounted()) {
                    return throwNew(Fault.TIRED, first);
                }
                int left = doPart(routine, first, caught, calls);
                if (left != AT_END) {
                    return left == BY_LEAVE ? AT_END : left;
                }
            }
            return AT_END;
        }

        private int doCall(Step step, int calls) {
            Routine called = routineAt(step.a);
            if (called == null || called.open > 0 || calls >= MOST_CALLS) {
                return throwNew(Fault.TIRED, step);
            }
            int left = doSteps(called, 0, called.used, null, calls + 1);
            return left == BY_FAULT ? BY_FAULT : AT_END;
        }

        private boolean isSo(Step step) {
            double x = dials.at(step.a);
            double y = dials.at(step.c);
            switch (step.b) {
                case 0: return x < y;
                case 1: return x == y;
                case 2: return x != y;
                default: return x >= y;
            }
        }

        private int useCaught(Step step, Fault caught) {
            switch (step.what) {
                case Step.AGAIN:
                    return leaveBy(caught);
                case Step.WRAP:
                    return caught.earlierOnes >= MOST_EARLIER
                        ? throwNew(Fault.TIRED, step)
                        : leaveBy(new Fault(Fault.WRAPPED, step.place, step.a, caught));
                default:
                    numbers.append(caught.kind);
                    numbers.append(caught.place);
                    numbers.append(caught.weight);
                    numbers.append(caught.earlierOnes);
                    return AT_END;
            }
        }

        /** Answers the kind of the fault, if it is one; so do the others that work. */
        private int workWithRow(Step step) {
            Row row = rowAt(step.a);
            if (row == null) {
                return Fault.MISSING;
            }
            int whole = dials.wholeAt(step.b);
            switch (step.what) {
                case Step.MAKE:
                    return row.make(whole);
                case Step.DROP:
                    row.drop();
                    return Fault.NONE;
                case Step.COUNT:
                    return row.places < 0 ? Fault.MISSING : dials.turn(step.b, row.places);
                case Step.GET:
                    return getInto(step.c, row, whole);
                case Step.PUT:
                    return row.put(whole, dials.at(step.c));
                default:
                    return row.fit(whole);
            }
        }

        private int getInto(int dial, Row row, int i) {
            int fault = row.faultAt(i, false);
            return fault == Fault.NONE ? dials.turn(dial, row.got(i)) : fault;
        }

        private int workWithDials(Step step) {
            switch (step.what) {
                case Step.SET:
                    return dials.turn(step.a, step.b / 8.0);
                case Step.FINE:
                    return doFine(step);
                case Step.ROUGH:
                    return doRough(step);
                case Step.WHOLE:
                    return doWhole(step);
                case Step.WIDE:
                    return doWide(step);
                default:
                    numbers.append(dials.at(step.a));
                    return Fault.NONE;
            }
        }

        private int doFine(Step step) {
            double x = dials.at(step.b);
            double y = dials.at(step.c);
            if (Sums.divides(step.a) && y == 0) {
                return Fault.ZERO;
            }
            return dials.turn(step.b, Sums.fine(step.a, x, y));
        }

        private int doRough(Step step) {
            float x = (float) dials.at(step.b);
            float y = (float) dials.at(step.c);
            if (Sums.divides(step.a) && y == 0) {
                return Fault.ZERO;
            }
            return dials.turn(step.b, Sums.roundsFloats(step.a) ? Sums.rough(step.a, x, y) : Sums.fine(step.a, x, y));
        }

        private int doWhole(Step step) {
            int x = dials.wholeAt(step.b);
            int y = dials.wholeAt(step.c);
            if (Sums.divides(step.a) && y == 0) {
                return Fault.ZERO;
            }
            return dials.turn(step.b, Sums.whole(step.a, x, y));
        }

        private int doWide(Step step) {
            long x = (long) dials.at(step.b);
            long y = (long) dials.at(step.c);
            if (Sums.divides(step.a) && y == 0) {
                return Fault.ZERO;
            }
            return dials.turn(step.b, Sums.wide(step.a, x, y));
        }
    }
}
