/** Promises 19 to 25: alike, many, sight, wall, great, undo, redo. */
public final class AloneTest {
    private static final int BAD = -1, NOT = -2, STATE = -5;
    private static final int MIN = Integer.MIN_VALUE, MAX = Integer.MAX_VALUE;

    public static void main(String[] args) {
        alike();
        alikeInEveryTurning();
        many();
        manyByHand();
        sight();
        wall();
        wallFirst();
        great();
        undoAndRedo();
        fortyChanges();
        Check.finish("AloneTest");
    }

    private static void alike() {
        FourCubes x = Check.heap(123456, 143256, 123465, 112345, 111111, 777777, 711111, 171111);
        Check.due("itself", x.alike(0), 1);
        Check.due("right and left exchanged", x.alike(1), 2);
        Check.due("the other way about", x.alike(10), 2);
        Check.due("top and bottom exchanged", x.alike(2), 2);
        Check.due("both: turned", x.alike(12), 1);
        Check.due("other colours", x.alike(3), 0);
        Check.due("WORN is as a colour", x.alike(45), 0);
        Check.due("WORN is as a colour, turned", x.alike(67), 1);
        int[] wrong = {-1, -10, 8, 9, 18, 80, 90, 100, MIN, MAX};
        for (int ab : wrong) {
            Check.due("alike(" + ab + ")", x.alike(ab), BAD);
        }
        FourCubes y = Check.heap(111111);
        Check.due("no such other", y.alike(1), BAD);
        Check.due("no such one", y.alike(10), BAD);
    }

    private static void alikeInEveryTurning() {
        for (int t = 0; t < 24; t++) {
            FourCubes x = Check.heap(123456);
            x.cube(coloursBy(x, t));
            Check.due("turned by " + t, x.alike(1), 1);
            Check.due("turned back by " + t, x.alike(10), 1);
            x.turn(0, 7);
            Check.due("turnings do not matter", x.alike(1), 1);
            int left = x.of(1, 3);
            x.paint(13, x.of(1, 1));
            x.paint(11, left);
            Check.due("in a glass, turned by " + t, x.alike(1), 2);
        }
    }

    private static int coloursBy(FourCubes x, int t) {
        int colours = 0;
        for (int where = 0; where < 6; where++) {
            colours = 10 * colours + x.shows(0, t, where) + 1;
        }
        return colours;
    }

    private static void many() {
        FourCubes x = new FourCubes();
        int[][] wrong = {{0, 0}, {-1, 0}, {1001, 1}, {5, -1}, {5, 2}, {MIN, 0}, {MAX, 0}};
        for (int[] w : wrong) {
            Check.due("many(" + w[0] + ", " + w[1] + ")", x.many(w[0], w[1]), BAD);
        }
        long[] turned = {1, 10, 57, 240, 800, 2226};
        long[] inGlass = {1, 10, 56, 220, 680, 1771};
        for (int n = 1; n <= 6; n++) {
            Check.due("many(" + n + ", 0)", x.many(n, 0), turned[n - 1]);
            Check.due("many(" + n + ", 1)", x.many(n, 1), inGlass[n - 1]);
        }
        Check.due("many(1000, 0)", x.many(1000, 0), 41666792167000000L);
        Check.due("many(1000, 1)", x.many(1000, 1), 20896021104458500L);
    }

    /** Counts cubes of three colours that are no turned image of one counted before, by alike(). */
    private static void manyByHand() {
        int[] kept = new int[64];
        int turned = 0;
        int inGlass = 0;
        for (int code = 0; code < 729; code++) {
            int colours = 0;
            for (int k = 0, rest = code; k < 6; k++, rest /= 3) {
                colours = 10 * colours + rest % 3 + 1;
            }
            int best = 0;
            for (int k = 0; k < turned && best != 1; k++) {
                FourCubes x = new FourCubes();
                x.cube(kept[k]);
                x.cube(colours);
                int how = x.alike(1);
                best = how == 0 ? best : how == 1 ? 1 : 2;
            }
            if (best != 1) {
                kept[turned] = colours;
                turned++;
                inGlass += best == 0 ? 1 : 0;
            }
        }
        Check.due("three colours, turned", new FourCubes().many(3, 0), turned);
        Check.due("three colours, in a glass", new FourCubes().many(3, 1), inGlass);
    }

    private static void sight() {
        FourCubes x = Check.heap(123456, 777777, 111111);
        Check.due("top 4, front 0, right 1", x.sight(401, 0), 1 << 16);
        Check.due("top 4, front 1, right 0: in a glass", x.sight(410, 0), 0);
        Check.due("opposite ones are never seen", x.sight(402, 0), 0);
        Check.due("top 0, front 5, right 1", x.sight(51, 0), 1);
        Check.due("WORN shows any", x.sight(555, 1), 0xFFFFFF);
        Check.due("one colour", x.sight(0, 2), 0xFFFFFF);
        Check.due("one colour, another", x.sight(1, 2), 0);
        Check.due("cubes", x.sight(401, -1), 3);
        Check.due("cubes", x.sight(0, -1), 6);
        int[] wrong = {-1, 6, 16, 60, 160, 600, 1000, 556, 565, MIN, MAX};
        for (int colours : wrong) {
            Check.due("sight(" + colours + ", 0)", x.sight(colours, 0), BAD);
            Check.due("sight(" + colours + ", -1)", x.sight(colours, -1), BAD);
        }
        int[] noCube = {-2, 3, 8, MIN, MAX};
        for (int cube : noCube) {
            Check.due("sight(0, " + cube + ")", x.sight(0, cube), BAD);
        }
        x.paint(2, 6);
        Check.due("a worn face for 3, and for 1", x.sight(413, 0), 1 << 17 | 1 << 18);
        Check.due("no worn face", x.sight(430, 0), 1 << 19);
        Check.due("a worn face for 5, and for 4", x.sight(415, 0), 1 << 17 | 1 << 9);
    }

    private static void wall() {
        FourCubes x = Check.heap(777777, 777777, 777777, 777777, 111111, 222222);
        int[] wrong = {-2, 4, MIN, MAX};
        for (int k : wrong) {
            Check.due("wall(" + k + ")", x.wall(k), BAD);
        }
        Check.due("none", x.wall(-1), STATE);
        x.box(7);
        Check.due("three", x.wall(0), STATE);
        x.box(15);
        Check.due("all worn", x.wall(-1), 24 * 24 * 24 * 24);
        Check.due("all worn, the first", x.wall(3), 0);
        x.box(51);
        Check.due("two unlike ones above", x.wall(-1), 0);
        Check.due("two unlike ones above, the first", x.wall(0), NOT);
        FourCubes y = Check.heap(777777, 111111, 222222, 777777);
        y.box(15);
        Check.due("unlike ones that do not touch", y.wall(-1), 24 * 24 * 24 * 24);
        FourCubes z = Check.heap(111111, 777777, 777777, 222222);
        z.box(15);
        Check.due("unlike ones that do not touch", z.wall(-1), 24 * 24 * 24 * 24);
        FourCubes v = Check.heap(111111, 777777, 222222, 777777);
        v.box(15);
        Check.due("the third stands on the first", v.wall(-1), 0);
        FourCubes w = Check.heap(777777, 111111, 777777, 222222);
        w.box(15);
        Check.due("the fourth stands on the second", w.wall(-1), 0);
        FourCubes u = Check.heap(111111, 222222, 777777, 777777);
        u.box(15);
        Check.due("the second stands beside the first", u.wall(-1), 0);
    }

    /** Only one face of each fits: the right of the first, the left of the second, and so on. */
    private static void wallFirst() {
        FourCubes x = Check.heap(123456, 777777, 777777, 777777);
        x.box(15);
        x.paint(10, 1);
        for (int cf = 11; cf < 16; cf++) {
            x.paint(cf, 0);
        }
        // The first must show on its right what the second has on its left.
        Check.due("the first's turning", x.wall(0), 0);
        Check.due("the second's, with face 0 on its left", x.wall(1), 5);
        Check.due("those above", x.wall(2), 0);
        x.box(15);
        x.turn(1, 3);
        Check.due("turnings do not matter", x.wall(1), 5);
    }

    private static void great() {
        int[] colours = {112212, 111222, 777111, 121212, 222777, 177777};
        FourCubes x = Check.heap(colours);
        Check.due("great(0)", x.great(0), 1 + 4 + 32);
        for (int colour = 0; colour < 6; colour++) {
            int bits = 0;
            for (int cube = 0; cube < 6; cube++) {
                bits |= corner(Check.heap(colours[cube]), colour) << cube;
            }
            Check.due("great(" + colour + ")", x.great(colour), bits);
        }
        int[] wrong = {-1, 6, 7, MIN, MAX};
        for (int colour : wrong) {
            Check.due("great(" + colour + ")", x.great(colour), BAD);
        }
    }

    private static int corner(FourCubes x, int colour) {
        int[][] corners = {{0, 1, 4}, {1, 2, 4}, {2, 3, 4}, {3, 0, 4}, {0, 1, 5}, {1, 2, 5}, {2, 3, 5}, {3, 0, 5}};
        for (int[] corner : corners) {
            boolean all = true;
            for (int face : corner) {
                all &= x.of(0, face) == colour || x.of(0, face) == 6;
            }
            if (all) {
                return 1;
            }
        }
        return 0;
    }

    private static void undoAndRedo() {
        FourCubes x = Check.heap(123456, 123456);
        Check.due("nothing done", x.undo(), STATE);
        Check.due("nothing undone", x.redo(), STATE);
        x.paint(0, 3);
        x.paint(0, 4);
        x.paint(11, 5);
        x.paint(11, 5);
        Check.due("three changes: the last was none", x.count(3), 3);
        Check.due("undo", x.undo(), 2);
        Check.due("undo", x.undo(), 1);
        Check.due("colour", x.of(0, 0), 3);
        Check.due("of the other", x.of(1, 1), 1);
        Check.due("painted as it is: no change", x.paint(0, 3), 3);
        Check.due("redo", x.redo(), 1);
        Check.due("colour", x.of(0, 0), 4);
        Check.due("redo", x.redo(), 0);
        Check.due("colour", x.of(1, 1), 5);
        Check.due("no more", x.redo(), STATE);
        Check.due("undo", x.undo(), 2);
        x.turn(0, 5);
        x.cube(111111);
        x.box(3);
        Check.due("wrong ones change nothing", x.paint(0, 7), BAD);
        Check.due("still there", x.redo(), 0);
        x.undo();
        x.undo();
        x.paint(5, 0);
        Check.due("another came behind", x.redo(), STATE);
        Check.due("two may be undone", x.undo(), 1);
        Check.due("and the other", x.undo(), 0);
        Check.due("no more", x.undo(), STATE);
        Check.due("as at first", x.of(0, 0), 0);
        Check.due("as at first", x.of(0, 5), 5);
        Check.due("both again", x.redo(), 1);
        Check.due("may be undone", x.count(3), 1);
    }

    private static void fortyChanges() {
        FourCubes x = Check.heap(111111);
        for (int k = 1; k <= 43; k++) {
            x.paint(k % 6, k % 2 == k / 6 % 2 ? 1 : 2);
            x.paint(k % 6, 3);
        }
        Check.due("forty at most", x.count(3), 40);
        for (int k = 39; k >= 0; k--) {
            Check.due("undo", x.undo(), k);
        }
        Check.due("no more", x.undo(), STATE);
        for (int k = 39; k >= 0; k--) {
            Check.due("redo", x.redo(), k);
        }
        Check.due("no more", x.redo(), STATE);
        Check.due("the last", x.of(0, 43 % 6), 3);
        FourCubes y = Check.heap(111111);
        for (int k = 1; k <= 41; k++) {
            y.paint(0, k == 1 ? 5 : 1 + k % 2);
        }
        Check.due("forty of them", y.count(3), 40);
        for (int k = 39; k >= 0; k--) {
            Check.due("colour ahead of an undo", y.of(0, 0), k % 2 == 0 ? 1 : 2);
            Check.due("undo", y.undo(), k);
        }
        Check.due("the first of forty-one is gone", y.undo(), STATE);
        Check.due("so its colour stays", y.of(0, 0), 5);
    }
}
