import java.util.ArrayDeque;
import java.util.ArrayList;
import java.util.Deque;
import java.util.List;

/**
 * The document said a second time, by other means than the class: Java's own exceptions, finally,
 * arrays of each kind, % and Math, over a tree of steps that is read anew for each run.
 */
final class Model {
    static class Fault extends RuntimeException {
        final int place;
        Fault(int place) { super(null, null, false, false); this.place = place; }
        int kind() { return 1; }
        int number() { return 0; }
        Fault earlier() { return null; }
        int plain() { return earlier() == null ? 1 : 1 + earlier().weight(); }
        int weight() { return plain(); }
        int earlierOnes() { return earlier() == null ? 0 : 1 + earlier().earlierOnes(); }
        Fault first() { return earlier() == null ? this : earlier().first(); }
    }
    static class RowFault extends Fault { RowFault(int p) { super(p); } int kind() { return 2; } }
    static class Missing extends RowFault { Missing(int p) { super(p); } int kind() { return 3; } int weight() { return plain() + 10; } }
    static class Place extends RowFault { Place(int p) { super(p); } int kind() { return 4; } }
    static class Size extends RowFault { Size(int p) { super(p); } int kind() { return 5; } int weight() { return plain() * 3; } }
    static class NumberFault extends Fault { NumberFault(int p) { super(p); } int kind() { return 6; } }
    static class Zero extends NumberFault { Zero(int p) { super(p); } int kind() { return 7; } int weight() { return plain() + 100; } }
    static class Range extends NumberFault { Range(int p) { super(p); } int kind() { return 8; } int weight() { return plain() + 105; } }
    static class Own extends Fault {
        final int number;
        Own(int p, int number) { super(p); this.number = number; }
        int kind() { return 9; }
        int number() { return number; }
        int weight() { return plain() + number; }
    }
    static class Tired extends Fault { Tired(int p) { super(p); } int kind() { return 10; } }
    static class Wrapped extends Own {
        final Fault earlier;
        Wrapped(int p, int number, Fault earlier) { super(p, number); this.earlier = earlier; }
        int kind() { return 11; }
        Fault earlier() { return earlier; }
        int weight() { return (plain() + number) * 2; }
    }
    static final Class<?>[] KINDS = {null, Fault.class, RowFault.class, Missing.class, Place.class, Size.class,
        NumberFault.class, Zero.class, Range.class, Own.class, Tired.class, Wrapped.class};

    static final class Leave extends RuntimeException { Leave() { super(null, null, false, false); } }
    static final class Return extends RuntimeException { Return() { super(null, null, false, false); } }
    static final class Probe { double held; }

    /** A step with the parts of its block: each part is the marker that began it and its nodes. */
    static final class Node {
        final int[] step;
        final int place;
        final List<Part> parts = new ArrayList<>();
        Node(int[] step, int place) { this.step = step; this.place = place; }
    }
    static final class Part {
        final int[] marker;
        final List<Node> nodes = new ArrayList<>();
        Part(int[] marker) { this.marker = marker; }
    }

    final List<List<int[]>> routines = new ArrayList<>();
    final double[] dials = new double[8];
    final Object[] rows = new Object[18];
    final List<Double> log = new ArrayList<>();
    int hand, counted, caught, finallies, callsOpen;
    Fault out;

    Model() { for (int i = 0; i < 4; i++) routines.add(new ArrayList<>()); }

    int choose(int r) { if (r < 0 || r > 3) return -1; hand = r; return routines.get(r).size(); }

    int clear() { int n = routines.get(hand).size(); routines.get(hand).clear(); return n; }

    /** The open blocks, the innermost first: {what, part's what, catches}. */
    static Deque<int[]> openOf(List<int[]> steps) {
        Deque<int[]> open = new ArrayDeque<>();
        for (int[] s : steps) {
            if (s[0] == 1 || s[0] == 4 || s[0] == 11) open.push(new int[] {s[0], s[0], 0});
            if (s[0] == 0) open.pop();
            if (s[0] == 2 || s[0] == 3) { open.peek()[1] = s[0]; if (s[0] == 2) open.peek()[2]++; }
        }
        return open;
    }

    static boolean in(int n, int least, int most) { return n >= least && n <= most; }
    static boolean dial(int d, int... more) { for (int m : more) if (!in(m, 0, 7)) return false; return in(d, 0, 7); }

    static boolean told(int what, int a, int b, int c) {
        return switch (what) {
            case 0, 1, 3, 5, 6, 8, 10 -> true;
            case 2 -> in(a, 1, 11);
            case 4 -> in(a, 0, 6);
            case 7, 9 -> in(a, 0, 99);
            case 11 -> dial(a, c) && in(b, 0, 3);
            case 12 -> in(a, 0, 3);
            case 13, 15 -> in(a, 0, 17) && dial(b);
            case 14 -> in(a, 0, 17);
            case 16, 17 -> in(a, 0, 17) && dial(b, c);
            case 18 -> in(a, 16, 17) && dial(b);
            case 19, 24 -> dial(a);
            case 20, 21 -> in(a, 0, 13) && dial(b, c);
            case 22, 23 -> in(a, 0, 7) && dial(b, c);
            default -> false;
        };
    }

    boolean allowed(int what) {
        Deque<int[]> open = openOf(routines.get(hand));
        int[] top = open.peek();
        switch (what) {
            case 0: return top != null;
            case 1: case 4: case 11: return open.size() < 6;
            case 2: return top != null && top[0] == 1 && top[1] != 3 && top[2] < 3;
            case 3: return top != null && top[0] == 1 && top[1] != 3;
            case 5:
                for (int[] o : open) { if (o[0] == 4) return true; if (o[1] == 3) return false; }
                return false;
            case 6: return open.stream().noneMatch(o -> o[1] == 3);
            case 8: case 9: case 10: return open.stream().anyMatch(o -> o[1] == 2);
            default: return true;
        }
    }

    int step(int what, int a, int b, int c) {
        if (!told(what, a, b, c)) return -1;
        if (!allowed(what)) return -2;
        if (routines.get(hand).size() == 40) return -3;
        routines.get(hand).add(new int[] {what, a, b, c});
        return routines.get(hand).size();
    }

    List<Node> tree(int r) {
        Part whole = new Part(null);
        Deque<Part> parts = new ArrayDeque<>();
        Deque<Node> blocks = new ArrayDeque<>();
        parts.push(whole);
        List<int[]> steps = routines.get(r);
        for (int i = 0; i < steps.size(); i++) {
            int[] s = steps.get(i);
            if (s[0] == 0) { parts.pop(); blocks.pop(); continue; }
            if (s[0] == 2 || s[0] == 3) {
                parts.pop();
                Part next = new Part(s);
                blocks.peek().parts.add(next);
                parts.push(next);
                continue;
            }
            Node node = new Node(s, 40 * r + i);
            parts.peek().nodes.add(node);
            if (s[0] == 1 || s[0] == 4 || s[0] == 11) {
                Part first = new Part(s);
                node.parts.add(first);
                blocks.push(node);
                parts.push(first);
            }
        }
        return whole.nodes;
    }

    int run() {
        if (!openOf(routines.get(hand)).isEmpty()) return -1;
        log.clear();
        counted = 0; caught = 0; finallies = 0; callsOpen = 0; out = null;
        try {
            perform(tree(hand), null);
        } catch (Return r) {
            return 0;
        } catch (Fault f) {
            out = f;
            return f.kind();
        }
        return 0;
    }

    void perform(List<Node> nodes, Fault inCatch) { for (Node n : nodes) perform(n, inCatch); }

    void count(int place) { if (counted == 200) throw new Tired(place); counted++; }

    void perform(Node n, Fault inCatch) {
        count(n.place);
        int a = n.step[1], b = n.step[2], c = n.step[3];
        switch (n.step[0]) {
            case 1 -> performTry(n, inCatch);
            case 4 -> {
                try {
                    for (int i = 0; i < a; i++) { count(n.place); perform(n.parts.get(0).nodes, inCatch); }
                } catch (Leave l) {
                    return;
                }
            }
            case 5 -> throw new Leave();
            case 6 -> throw new Return();
            case 7 -> throw new Own(n.place, a);
            case 8 -> throw inCatch;
            case 9 -> { if (inCatch.earlierOnes() == 5) throw new Tired(n.place); throw new Wrapped(n.place, a, inCatch); }
            case 10 -> {
                log.add((double) inCatch.kind()); log.add((double) inCatch.place);
                log.add((double) inCatch.weight()); log.add((double) inCatch.earlierOnes());
            }
            case 11 -> {
                boolean so = b == 0 ? dials[a] < dials[c] : b == 1 ? dials[a] == dials[c] : b == 2 ? dials[a] != dials[c] : !(dials[a] < dials[c]);
                if (so) perform(n.parts.get(0).nodes, inCatch);
            }
            case 12 -> {
                if (!openOf(routines.get(a)).isEmpty() || callsOpen == 4) throw new Tired(n.place);
                callsOpen++;
                try { perform(tree(a), null); } catch (Return r) { return; } finally { callsOpen--; }
            }
            case 13 -> {
                int size = (int) dials[b];
                if (size > 16) throw new Range(n.place);
                if (size < 0) throw new Size(n.place);
                rows[a] = made(a / 2, size);
            }
            case 14 -> rows[a] = null;
            case 15 -> { if (rows[a] == null) throw new Missing(n.place); dials[b] = places(rows[a]); }
            case 16 -> {
                int i = (int) dials[b];
                look(n.place, rows[a], i, true);
                dials[c] = got(rows[a], i);
            }
            case 17 -> {
                int i = (int) dials[b];
                look(n.place, rows[a], i, true);
                put(rows[a], i, dials[c]);
            }
            case 18 -> {
                int i = (int) dials[b];
                look(n.place, rows[a], i, false);
                ((Probe[]) rows[a])[i] = new Probe();
            }
            case 19 -> dials[a] = b / 8.0;
            case 20 -> turn(n.place, b, fine(n.place, a, dials[b], dials[c]));
            case 21 -> turn(n.place, b, rough(n.place, a, (float) dials[b], (float) dials[c]));
            case 22 -> turn(n.place, b, whole(n.place, a, (int) dials[b], (int) dials[c]));
            case 23 -> turn(n.place, b, wide(n.place, a, (long) dials[b], (long) dials[c]));
            case 24 -> log.add(dials[a]);
            default -> throw new AssertionError(n.step[0]);
        }
    }

    void performTry(Node n, Fault inCatch) {
        Part last = n.parts.get(n.parts.size() - 1);
        try {
            try {
                perform(n.parts.get(0).nodes, inCatch);
            } catch (Fault f) {
                for (Part p : n.parts) {
                    if (p.marker[0] == 2 && KINDS[p.marker[1]].isInstance(f)) {
                        caught++;
                        perform(p.nodes, f);
                        return;
                    }
                }
                throw f;
            }
        } finally {
            if (last.marker[0] == 3) { finallies++; perform(last.nodes, inCatch); }
        }
    }

    void turn(int place, int d, double v) {
        if (Math.abs(v) > 1e15) throw new Range(place);
        dials[d] = v;
    }

    static Object made(int kind, int size) {
        return switch (kind) {
            case 0 -> new boolean[size];
            case 1 -> new byte[size];
            case 2 -> new char[size];
            case 3 -> new short[size];
            case 4 -> new int[size];
            case 5 -> new long[size];
            case 6 -> new float[size];
            case 7 -> new double[size];
            default -> new Probe[size];
        };
    }

    static int places(Object row) { return java.lang.reflect.Array.getLength(row); }

    static void look(int place, Object row, int i, boolean probe) {
        if (row == null) throw new Missing(place);
        if (i < 0 || i >= places(row)) throw new Place(place);
        if (probe && row instanceof Probe[] p && p[i] == null) throw new Missing(place);
    }

    static double got(Object row, int i) {
        if (row instanceof boolean[] r) return r[i] ? 1 : 0;
        if (row instanceof byte[] r) return r[i];
        if (row instanceof char[] r) return r[i];
        if (row instanceof short[] r) return r[i];
        if (row instanceof int[] r) return r[i];
        if (row instanceof long[] r) return r[i];
        if (row instanceof float[] r) return r[i];
        if (row instanceof double[] r) return r[i];
        return ((Probe[]) row)[i].held;
    }

    static void put(Object row, int i, double v) {
        if (row instanceof boolean[] r) r[i] = v != 0;
        else if (row instanceof byte[] r) r[i] = (byte) (int) v;
        else if (row instanceof char[] r) r[i] = (char) (int) v;
        else if (row instanceof short[] r) r[i] = (short) (int) v;
        else if (row instanceof int[] r) r[i] = (int) v;
        else if (row instanceof long[] r) r[i] = (long) v;
        else if (row instanceof float[] r) r[i] = (float) v;
        else if (row instanceof double[] r) r[i] = v;
        else ((Probe[]) row)[i].held = v;
    }

    static double fine(int place, int sum, double x, double y) {
        if ((sum == 3 || sum == 4) && y == 0) throw new Zero(place);
        return switch (sum) {
            case 0 -> x + y;
            case 1 -> x - y;
            case 2 -> x * y;
            case 3 -> x / y;
            case 4 -> x % y;
            case 5 -> Math.min(x, y);
            case 6 -> Math.max(x, y);
            case 7 -> Math.copySign(x, y);
            case 8 -> Math.abs(y);
            case 9 -> Math.floor(y);
            case 10 -> Math.ceil(y);
            case 11 -> Math.rint(y);
            case 12 -> Math.signum(y);
            default -> (double) (long) y;
        };
    }

    static double rough(int place, int sum, float x, float y) {
        if ((sum == 3 || sum == 4) && y == 0) throw new Zero(place);
        return switch (sum) {
            case 0 -> (double) (x + y);
            case 1 -> (double) (x - y);
            case 2 -> (double) (x * y);
            case 3 -> (double) (x / y);
            case 4 -> (double) (x % y);
            case 5 -> (double) Math.min(x, y);
            case 6 -> (double) Math.max(x, y);
            case 7 -> (double) Math.copySign(x, y);
            case 8 -> (double) Math.abs(y);
            case 9 -> Math.floor((double) y);
            case 10 -> Math.ceil((double) y);
            case 11 -> Math.rint((double) y);
            case 12 -> (double) Math.signum(y);
            default -> (double) (long) y;
        };
    }

    static double whole(int place, int sum, int x, int y) {
        try {
            return switch (sum) {
                case 0 -> x + y;
                case 1 -> x - y;
                case 2 -> x * y;
                case 3 -> x / y;
                case 4 -> x % y;
                case 5 -> x & y;
                case 6 -> x | y;
                default -> x ^ y;
            };
        } catch (ArithmeticException e) {
            throw new Zero(place);
        }
    }

    static double wide(int place, int sum, long x, long y) {
        try {
            return switch (sum) {
                case 0 -> x + y;
                case 1 -> x - y;
                case 2 -> x * y;
                case 3 -> x / y;
                case 4 -> x % y;
                case 5 -> x & y;
                case 6 -> x | y;
                default -> x ^ y;
            };
        } catch (ArithmeticException e) {
            throw new Zero(place);
        }
    }

    double dialOf(int d) { return in(d, 0, 7) ? dials[d] : 0; }
    int size(int w) { return !in(w, 0, 17) ? -2 : rows[w] == null ? -1 : places(rows[w]); }
    double value(int w, int i) { return i < 0 || i >= size(w) || rows[w] instanceof Probe[] p && p[i] == null ? 0 : got(rows[w], i); }
    boolean isFitted(int w, int i) { return i >= 0 && i < size(w) && rows[w] instanceof Probe[] p && p[i] != null; }
    double log(int i) { return in(i, 0, log.size() - 1) ? log.get(i) : 0; }
    boolean isMinus(int i) { return Double.doubleToRawLongBits(log(i)) < 0; }

    int countOf(int what) {
        return switch (what) {
            case 0 -> routines.get(hand).size();
            case 1 -> openOf(routines.get(hand)).size();
            case 2 -> counted;
            case 3 -> log.size();
            case 4 -> caught;
            case 5 -> finallies;
            default -> -1;
        };
    }

    int fault(int what) {
        if (out == null) return -1;
        return switch (what) {
            case 0 -> out.kind();
            case 1 -> out.place;
            case 2 -> out.weight();
            case 3 -> out.number();
            case 4 -> out.earlierOnes();
            case 5 -> out.first().place;
            default -> -1;
        };
    }
}
