/** Promises 26 to 28: bodies, their acts, the trace. */
public final class ActsTest {
    private static final int BAD = -1, FULL = -3;
    private static final int MIN = Integer.MIN_VALUE, MAX = Integer.MAX_VALUE;

    public static void main(String[] args) {
        body();
        traces();
        valuesWrap();
        noSuch();
        Check.finish("ActsTest");
    }

    private static void body() {
        FourCubes x = new FourCubes();
        int[] wrong = {-1, 8, MIN, MAX};
        for (int kind : wrong) {
            Check.due("body(" + kind + ")", x.body(kind), BAD);
        }
        for (int k = 0; k < 50; k++) {
            Check.due("body " + k, x.body(k % 8), k);
        }
        Check.due("the fifty-first", x.body(0), FULL);
        Check.due("the fifty-first, no kind", x.body(8), BAD);
        Check.due("count(4)", x.count(4), 50);
        Check.due("the last one's turns: ROW 49 is TOWER's", x.act(49, 0, 1), 1 + 49 + (49 % 8 == 1 ? 3 : 0));
    }

    /** By kind and act: the bodies that run. */
    private static final int[][][] RUNS = {
        {{1}, {10, 1}, {11}, {2, 10, 1, 11}},
        {{20, 1}, {10, 20, 1}, {11}, {2, 10, 20, 1, 11}},
        {{1}, {30, 10, 1}, {11}, {2, 30, 10, 1, 11}},
        {{1}, {41, 30, 10, 1}, {40, 11}, {2, 41, 30, 10, 1, 40, 11}},
        {{20, 1}, {10, 20, 1}, {11}, {50, 2, 10, 20, 1, 11}},
        {{20, 1}, {10, 20, 1}, {60, 11, 20, 1}, {61, 50, 2, 10, 20, 1, 60, 11, 20, 1}},
        {{70, 1}, {10, 70, 1}, {11}, {2, 10, 70, 1, 11}},
        {{81, 70, 1}, {80, 10, 81, 70, 1, 11}, {11}, {2, 80, 10, 81, 70, 1, 11, 11}}};

    private static void traces() {
        FourCubes x = new FourCubes();
        for (int kind = 0; kind < 8; kind++) {
            x.body(kind);
        }
        for (int kind = 0; kind < 8; kind++) {
            for (int act = 0; act < 4; act++) {
                x.act(kind, act, 5);
                int[] due = RUNS[kind][act];
                Check.due("ran in act " + act + " of " + kind, x.count(5), due.length);
                for (int k = 0; k < due.length; k++) {
                    Check.due("trace(" + k + ") of act " + act + " of " + kind, x.trace(k), due[k]);
                }
                Check.due("trace behind the last", x.trace(due.length), BAD);
                Check.due("trace(-1)", x.trace(-1), BAD);
            }
        }
        Check.due("trace(MIN)", x.trace(MIN), BAD);
        Check.due("trace(MAX)", x.trace(MAX), BAD);
    }

    private static void valuesWrap() {
        FourCubes x = new FourCubes();
        int[] kinds = {3, 5, 0, 7, 1, 2, 4, 6};
        for (int kind : kinds) {
            x.body(kind);
        }
        int[] xs = {0, 1, -1, 7, MAX, MIN, 1 << 30, -123456789};
        for (int v : xs) {
            Check.due("GREAT 0 turns " + v, x.act(0, 0, v), v);
            Check.due("GREAT 0 shows " + v, x.act(0, 1, v), -((v + 1) * 2));
            Check.due("GREAT 0 lies " + v, x.act(0, 2, v), v * 3);
            Check.due("GREAT 0 tells " + v, x.act(0, 3, v), -((v + 1) * 2) - 3);
            int lies = (1 ^ 1) - (2 + 1 + 3);
            Check.due("BAR 1 turns " + v, x.act(1, 0, v), v + 1 + 3);
            Check.due("BAR 1 lies " + v, x.act(1, 2, v), (v ^ 1) - 6);
            Check.due("BAR 1 tells " + v, x.act(1, 3, v), (((v + 4) * 2 - lies) ^ 5) + 1);
            Check.due("HEAP 2 tells " + v, x.act(2, 3, v), (v + 2) * 2 - (1 ^ 2));
            Check.due("WORN 3 turns " + v, x.act(3, 0, v), (v + 3) * 2 - 1);
            Check.due("WORN 3 shows " + v, x.act(3, 1, v), ((v + 3) * 2 - 1) * 2 + (2 ^ 3));
            Check.due("WORN 3 lies " + v, x.act(3, 2, v), v ^ 3);
            Check.due("WORN 3 tells " + v, x.act(3, 3, v), ((v + 3) * 2 - 1) * 2 + (2 ^ 3) - (1 ^ 3));
            Check.due("TOWER 4 turns " + v, x.act(4, 0, v), v + 4 + 3);
            Check.due("TOWER 4 tells " + v, x.act(4, 3, v), (v + 4 + 3) * 2 - (1 ^ 4));
            Check.due("WALL 5 turns " + v, x.act(5, 0, v), v + 5);
            Check.due("WALL 5 shows " + v, x.act(5, 1, v), -((v + 5) * 2));
            Check.due("WALL 5 tells " + v, x.act(5, 3, v), -((v + 5) * 2) - (1 ^ 5));
            Check.due("ROW 6 shows " + v, x.act(6, 1, v), (v + 6 + 3) * 2);
            Check.due("ROW 6 tells " + v, x.act(6, 3, v), ((v + 6 + 3) * 2 - (1 ^ 6)) ^ 5);
            Check.due("TOLD 7 turns " + v, x.act(7, 0, v), (v + 7) * 2);
            Check.due("TOLD 7 shows " + v, x.act(7, 1, v), (v + 7) * 2 * 2);
            Check.due("TOLD 7 tells " + v, x.act(7, 3, v), (v + 7) * 2 * 2 - (1 ^ 7));
        }
    }

    private static void noSuch() {
        FourCubes x = new FourCubes();
        x.body(0);
        int[][] wrong = {{1, 0}, {-1, 0}, {0, 4}, {0, -1}, {MIN, 0}, {MAX, 0}, {0, MIN}, {0, MAX}};
        for (int[] w : wrong) {
            x.act(0, 3, 4);
            Check.due("ran", x.count(5), 4);
            Check.due("act(" + w[0] + ", " + w[1] + ")", x.act(w[0], w[1], 9), 0);
            Check.due("no trace", x.count(5), 0);
            Check.due("no trace(0)", x.trace(0), BAD);
        }
    }
}
