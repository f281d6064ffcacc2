import java.util.ArrayDeque;
import java.util.Deque;
import java.util.Random;

/** All promises: runs of calls with chosen-by-seed arguments, each answered as the Oracle does. */
public final class RandomRunsTest {
    /** What is answered behind these is free. */
    private static final int MOST_CALLS = 512;
    /** An act, and THE TRACE with a place on either side. */
    private static final int DEAREST_STEP = 14;
    private static final int[] EDGES = {-1, -2, 0, 1, 5, 6, 7, 8, 23, 24, 60, 61, 100, 255, 256,
        Integer.MIN_VALUE, Integer.MAX_VALUE, Integer.MIN_VALUE + 1, -1000000007};

    private final Random random;
    private final FourCubes x = new FourCubes();
    private final Oracle o = new Oracle();
    private final Deque<String> calls = new ArrayDeque<>();
    private int slowLeft;
    private int asked;
    /** With few colours there are more alike, with many there are more ways. */
    private final int colours;

    private RandomRunsTest(int seed, int slow) {
        random = new Random(seed);
        slowLeft = slow;
        colours = 2 + random.nextInt(6);
    }

    public static void main(String[] args) {
        int runs = args.length > 0 ? Integer.parseInt(args[0]) : 70;
        int from = args.length > 1 ? Integer.parseInt(args[1]) : 0;
        for (int seed = from; seed < from + runs && Check.allRight(); seed++) {
            new RandomRunsTest(seed, 4).run(seed);
        }
        laws();
        Check.finish("RandomRunsTest");
    }

    /** Many texts, whole and broken, each read by both. */
    private static void laws() {
        Random random = new Random(99);
        for (int k = 0; k < 20000 && Check.allRight(); k++) {
            String text = Texts.any(random);
            FourCubes x = new FourCubes();
            for (int at = 0; at < text.length(); at++) {
                x.feed(text.charAt(at));
            }
            int fault = Oracle.fault(text);
            Check.due("law of " + text, x.law(), fault < 0 ? 1 : -100 - fault);
        }
    }

    private void run(int seed) {
        for (int k = 0; k < MOST_CALLS && asked + DEAREST_STEP <= MOST_CALLS && Check.allRight(); k++) {
            if (random.nextInt(25) == 0) {
                tell();
            } else {
                step(k < 12 ? 0 : random.nextInt(36));
            }
        }
        if (!Check.allRight()) {
            System.out.println("in the run of seed " + seed + ", after:");
            for (String call : calls) {
                System.out.println("  " + call);
            }
        }
    }

    private int small(int bound) {
        return random.nextInt(10) == 0 ? EDGES[random.nextInt(EDGES.length)] : random.nextInt(bound);
    }

    private int bits() {
        int cubes = o.count(0);
        return random.nextInt(10) == 0 ? EDGES[random.nextInt(EDGES.length)] : random.nextInt(1 << cubes);
    }

    private int sixColours() {
        int all = 0;
        for (int k = 0; k < 6; k++) {
            all = 10 * all + 1 + (random.nextInt(12) == 0 ? 6 : random.nextInt(Math.min(colours, 6)));
        }
        return random.nextInt(12) == 0 ? all + EDGES[random.nextInt(EDGES.length)] : all;
    }

    private void due(String call, long got, long want) {
        asked++;
        calls.add(call + " " + want);
        Check.due(call, got, want);
    }

    private void tell() {
        String text = Texts.any(random);
        if (asked + text.length() + 1 > MOST_CALLS) {
            return;
        }
        for (int at = 0; at < text.length(); at++) {
            int c = text.charAt(at);
            due("feed(" + c + ")", x.feed(c), o.feed(c));
        }
        due("law()", x.law(), o.law());
    }

    private boolean mayBeSlow() {
        if (Integer.bitCount(o.count(1)) < 3) {
            return true;
        }
        slowLeft--;
        return slowLeft >= 0;
    }

    private void step(int which) {
        int a = small(8);
        int b = small(6);
        int c = small(8);
        switch (which) {
            case 0: { int v = sixColours(); due("cube(" + v + ")", x.cube(v), o.cube(v)); break; }
            case 1: { int s = small(6); due("cubes(" + s + "," + b + "," + c + ")", x.cubes(s, b, c), o.cubes(s, b, c)); break; }
            case 2: case 3: { int cf = small(80); int v = small(7); due("paint(" + cf + "," + v + ")", x.paint(cf, v), o.paint(cf, v)); break; }
            case 4: { int w = small(13); due("of(" + a + "," + w + ")", x.of(a, w), o.of(a, w)); break; }
            case 5: case 6: { int v = bits(); due("box(" + v + ")", x.box(v), o.box(v)); break; }
            case 7: { int v = small(256); due("feed(" + v + ")", x.feed(v), o.feed(v)); break; }
            case 8: { int t = small(24); due("turn(" + a + "," + t + ")", x.turn(a, t), o.turn(a, t)); break; }
            case 9: { int t = small(24); due("shows(" + a + "," + t + "," + b + ")", x.shows(a, t, b), o.shows(a, t, b)); break; }
            case 10: due("judge()", x.judge(), o.judge()); break;
            case 11: case 12: case 13: case 14: case 15: case 16: tower(which, a, b); break;
            case 17: { int ab = small(88); due("alike(" + ab + ")", x.alike(ab), o.alike(ab)); break; }
            case 18: { int n = small(1001); int w = small(2); due("many(" + n + "," + w + ")", x.many(n, w), o.many(n, w)); break; }
            case 19: { int v = 100 * small(6) + 10 * small(6) + small(6); int k = random.nextInt(3) == 0 ? -1 : a;
                due("sight(" + v + "," + k + ")", x.sight(v, k), o.sight(v, k)); break; }
            case 20: { int k = small(5) - 1; due("wall(" + k + ")", x.wall(k), o.wall(k)); break; }
            case 21: due("great(" + b + ")", x.great(b), o.great(b)); break;
            case 22: due("undo()", x.undo(), o.undo()); break;
            case 23: due("redo()", x.redo(), o.redo()); break;
            default: shelves(which, a, b, c); break;
        }
    }

    private void tower(int which, int a, int b) {
        int w = small(2);
        if (which >= 14 && !mayBeSlow()) {
            return;
        }
        switch (which) {
            case 11: { int h = bits(); int k = small(5) - 1; due("ways(" + h + "," + k + ")", x.ways(h, k), o.ways(h, k)); break; }
            case 12: { int h = bits(); due("near(" + h + ")", x.near(h), o.near(h)); break; }
            case 13: { int t = small(24); due("build(" + t + "," + w + ")", x.build(t, w), o.build(t, w)); break; }
            case 14: { int m = small(4); due("mend(" + m + ")", x.mend(m), o.mend(m)); break; }
            case 15: { int cf = 10 * a + b; due("open(" + cf + ")", x.open(cf), o.open(cf)); break; }
            default:
                due("swap(" + w + ")", x.swap(w), o.swap(w));
                due("rings(" + w + ")", x.rings(w), o.rings(w));
                break;
        }
    }

    private void shelves(int which, int a, int b, int c) {
        int s = small(6);
        int i = small(20);
        switch (which) {
            case 24: due("body(" + a + ")", x.body(a), o.body(a)); break;
            case 25: { int k = small(10); int v = small(1000); int d = small(4);
                due("act(" + k + "," + d + "," + v + ")", x.act(k, d, v), o.act(k, d, v));
                for (int t = -1; t < 12; t++) {
                    due("trace(" + t + ")", x.trace(t), o.trace(t));
                }
                break; }
            case 26: { int k = small(12) - 1; due("keep(" + s + "," + k + ")", x.keep(s, k), o.keep(s, k)); break; }
            case 27: case 28: { int d = random.nextInt(2) == 0 ? 0 : b; due("row(" + s + "," + d + "," + i + ")", x.row(s, d, i), o.row(s, d, i)); break; }
            case 29: case 30: case 31: { long v = random.nextInt(4) == 0 ? random.nextLong() : small(7);
                due("put(" + s + "," + i + "," + v + ")", x.put(s, i, v), o.put(s, i, v)); break; }
            case 32: due("element(" + s + "," + i + ")", x.element(s, i), o.element(s, i)); break;
            case 33: { int j = small(12); int n = small(10); int t = small(6);
                due("shift(" + s + "," + i + "," + t + "," + j + "," + n + ")", x.shift(s, i, t, j, n), o.shift(s, i, t, j, n)); break; }
            case 34: due("taken(" + s + "," + c + ")", x.taken(s, c), o.taken(s, c)); break;
            default: due("count(" + b + ")", x.count(b), o.count(b)); break;
        }
    }
}
