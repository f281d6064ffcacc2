import java.util.function.Consumer;
import java.util.function.ToLongFunction;

/**
 * "Answers, of several the one named first: BAD (-1) .. NOT (-2) .. FULL (-3) .. STATE (-5) .. -11 to -14. ..
 * What is answered so changes nothing." Each promise's refusals alone, and each two that can meet in one call.
 */
public final class RefusalsTest {
    private static final int BAD = -1, NOT = -2, FULL = -3, STATE = -5;
    private static final int NOTHING = -11, KIND = -12, PLACE = -13, SIZE = -14;
    private static final int MIN = Integer.MIN_VALUE, MAX = Integer.MAX_VALUE;
    private static final Consumer<FourCubes> RICH = Twins::rich;

    public static void main(String[] args) {
        cubes();
        cubesFromARow();
        facesAndTurnings();
        boxAndTape();
        ways();
        buildAndMend();
        openSwapAndRings();
        cubesByThemselves();
        undoAndRedo();
        bodies();
        keepAndRow();
        putAndElement();
        shift();
        takenAndCount();
        questionsChangeNothing();
        Check.finish("RefusalsTest");
    }

    private static void refused(Consumer<FourCubes> past, String call, ToLongFunction<FourCubes> ask, long due) {
        Twins.unchanged(past, call, ask, due);
    }

    private static void cubes() {
        Check.says("cube: BAD, FULL: 8.");
        for (int colours : new int[] {0, -123456, 12345, 1234561, 123450, 123458, MIN, MAX}) {
            refused(RICH, "cube(" + colours + ")", x -> x.cube(colours), BAD);
        }
        refused(Twins::eightCubes, "the ninth cube", x -> x.cube(123456), FULL);
        refused(Twins::eightCubes, "BAD ahead of FULL", x -> x.cube(123458), BAD);
    }

    private static void cubesFromARow() {
        Check.says("cubes: BAD, -12 (no ROW of bytes; a SHELF that holds nothing is missing).");
        refused(RICH, "shelf -1", x -> x.cubes(-1, 0, 1), BAD);
        refused(RICH, "shelf 6", x -> x.cubes(6, 0, 1), BAD);
        refused(RICH, "n 0", x -> x.cubes(1, 0, 0), BAD);
        refused(RICH, "n 9", x -> x.cubes(1, 0, 9), BAD);
        refused(RICH, "a body", x -> x.cubes(0, 0, 1), KIND);
        refused(RICH, "ints", x -> x.cubes(2, 0, 1), KIND);
        refused(RICH, "booleans", x -> x.cubes(5, 0, 1), KIND);
        refused(RICH, "BAD ahead of -12: n 0 from a body", x -> x.cubes(0, 0, 0), BAD);
        refused(RICH, "BAD ahead of -12: n 9 from ints", x -> x.cubes(2, 0, 9), BAD);
        refused(RICH, "BAD, though the row is missing", x -> x.cubes(3, 0, 9), BAD);
        refused(Twins::eightCubes, "-12, though no cube could come", x -> x.cubes(2, 0, 1), KIND);
        refused(Twins::eightCubes, "BAD, though no cube could come", x -> x.cubes(1, 0, 0), BAD);
        refused(RICH, "missing: none came", x -> x.cubes(3, 0, 1), 0);
        refused(RICH, "a row of none: none came", x -> x.cubes(4, 0, 1), 0);
        refused(Twins::eightCubes, "FULL: none came", x -> x.cubes(1, 0, 1), 0);
    }

    private static void facesAndTurnings() {
        Check.says("paint: BAD.");
        for (int cf : new int[] {-1, -10, 6, 9, 46, 49, 50, 55, 80, MIN, MAX}) {
            refused(RICH, "paint(" + cf + ", 2)", x -> x.paint(cf, 2), BAD);
        }
        for (int colour : new int[] {-1, 7, MIN, MAX}) {
            refused(RICH, "paint(10, " + colour + ")", x -> x.paint(10, colour), BAD);
        }
        refused(RICH, "painted as it is: what it was", x -> x.paint(10, 2), 2);
        Check.says("of: BAD.");
        for (int[] w : new int[][] {{-1, 0}, {5, 0}, {0, -1}, {0, 7}, {0, 9}, {0, 13}, {MIN, MIN}, {MAX, MAX}}) {
            refused(RICH, "of(" + w[0] + ", " + w[1] + ")", x -> x.of(w[0], w[1]), BAD);
        }
        Check.says("turn: BAD.");
        for (int[] w : new int[][] {{-1, 0}, {5, 0}, {0, -1}, {0, 24}, {MIN, 0}, {0, MAX}}) {
            refused(RICH, "turn(" + w[0] + ", " + w[1] + ")", x -> x.turn(w[0], w[1]), BAD);
        }
        Check.says("shows: BAD.");
        for (int[] w : new int[][] {{-1, 0, 0}, {5, 0, 0}, {0, -1, 0}, {0, 24, 0}, {0, 0, -1}, {0, 0, 6}, {MAX, MIN, MAX}}) {
            refused(RICH, "shows(" + w[0] + ", " + w[1] + ", " + w[2] + ")", x -> x.shows(w[0], w[1], w[2]), BAD);
        }
    }

    private static void boxAndTape() {
        Check.says("box: BAD (more than 4; not there).");
        for (int bits : new int[] {-1, 31, 32, 33, 256, MIN, MIN + 1, MAX}) {
            refused(RICH, "box(" + bits + ")", x -> x.box(bits), BAD);
        }
        Check.says("feed: BAD, FULL (120).");
        for (int letter : new int[] {-1, 256, 97 + 256, 97 - 256, MIN, MAX}) {
            refused(RICH, "feed(" + letter + ")", x -> x.feed(letter), BAD);
            refused(Twins::fullTape, "BAD ahead of FULL: feed(" + letter + ")", x -> x.feed(letter), BAD);
        }
        refused(Twins::fullTape, "the 121st byte", x -> x.feed('a'), FULL);
    }

    private static void ways() {
        Check.says("ways: BAD (none such); NOT (k 0 on): there is none.");
        for (int held : new int[] {-1, 32, 63, MIN, MAX}) {
            refused(RICH, "ways(" + held + ", -1)", x -> x.ways(held, -1), BAD);
            refused(Twins::noWay, "BAD ahead of NOT: ways(" + held + ", 0)", x -> x.ways(held, 0), BAD);
        }
        for (int k : new int[] {-2, 4, MIN, MAX}) {
            refused(RICH, "ways(0, " + k + ")", x -> x.ways(0, k), BAD);
            refused(Twins::noWay, "BAD ahead of NOT: ways(0, " + k + ")", x -> x.ways(0, k), BAD);
        }
        for (int k = 0; k < 4; k++) {
            int place = k;
            refused(Twins::noWay, "no first: ways(0, " + k + ")", x -> x.ways(0, place), NOT);
        }
        refused(Twins::noWay, "none of them", x -> x.ways(0, -1), 0);
        Check.says("near: BAD.");
        for (int held : new int[] {-1, 32, MIN, MAX}) {
            refused(RICH, "near(" + held + ")", x -> x.near(held), BAD);
        }
    }

    private static void buildAndMend() {
        Check.says("build: BAD; STATE: THE BOX is empty.");
        for (int[] w : new int[][] {{-1, 0}, {24, 1}, {0, -1}, {23, 2}, {MIN, 0}, {0, MAX}}) {
            String call = "build(" + w[0] + ", " + w[1] + ")";
            refused(RICH, call, x -> x.build(w[0], w[1]), BAD);
            refused(Twins::emptyBox, "BAD ahead of STATE: " + call, x -> x.build(w[0], w[1]), BAD);
        }
        refused(Twins::emptyBox, "build(0, 0)", x -> x.build(0, 0), STATE);
        refused(Twins::emptyBox, "build(23, 1)", x -> x.build(23, 1), STATE);
        Check.says("mend: BAD; NOT (1 on): there is none.");
        for (int what : new int[] {-1, 4, MIN, MAX}) {
            refused(RICH, "mend(" + what + ")", x -> x.mend(what), BAD);
            refused(Twins::noWay, "BAD ahead of NOT: mend(" + what + ")", x -> x.mend(what), BAD);
        }
        refused(Twins::noWay, "mend(0)", x -> x.mend(0), 0);
        refused(Twins::noWay, "mend(1)", x -> x.mend(1), NOT);
        refused(Twins::noWay, "mend(2)", x -> x.mend(2), NOT);
        refused(Twins::noWay, "mend(3)", x -> x.mend(3), NOT);
    }

    private static void openSwapAndRings() {
        Check.says("open: BAD; STATE: it is not WORN, or the CUBE is not in THE BOX.");
        for (int cf : new int[] {-1, 6, 16, 50, MIN, MAX}) {
            refused(RICH, "open(" + cf + ")", x -> x.open(cf), BAD);
            refused(Twins::emptyBox, "BAD ahead of STATE: open(" + cf + ")", x -> x.open(cf), BAD);
        }
        refused(RICH, "in the box, not worn", x -> x.open(10), STATE);
        refused(RICH, "worn, not in the box", x -> x.open(40), STATE);
        refused(RICH, "neither", x -> x.open(41), STATE);
        Check.says("swap: BAD; STATE: more than 4 are not in THE BOX; NOT.");
        for (int what : new int[] {-1, 2, MIN, MAX}) {
            refused(Twins::noWay, "BAD ahead of NOT: swap(" + what + ")", x -> x.swap(what), BAD);
            refused(Twins::emptyBox, "BAD ahead of STATE: swap(" + what + ")", x -> x.swap(what), BAD);
        }
        // Of an empty box there is none to exchange: NOT as well.
        refused(Twins::emptyBox, "STATE, though it is NOT as well", x -> x.swap(0), STATE);
        refused(Twins::noWay, "swap(0)", x -> x.swap(0), NOT);
        refused(Twins::noWay, "swap(1)", x -> x.swap(1), NOT);
        Check.says("rings: BAD; STATE: THE BOX is empty.");
        for (int what : new int[] {-1, 2, MIN, MAX}) {
            refused(RICH, "rings(" + what + ")", x -> x.rings(what), BAD);
            refused(Twins::emptyBox, "BAD ahead of STATE: rings(" + what + ")", x -> x.rings(what), BAD);
        }
        refused(Twins::emptyBox, "rings(0)", x -> x.rings(0), STATE);
        refused(Twins::emptyBox, "rings(1)", x -> x.rings(1), STATE);
    }

    private static void cubesByThemselves() {
        Check.says("alike: BAD.");
        for (int ab : new int[] {-1, -11, 5, 9, 45, 50, 54, 100, MIN, MAX}) {
            refused(RICH, "alike(" + ab + ")", x -> x.alike(ab), BAD);
        }
        Check.says("many: BAD.");
        for (int[] w : new int[][] {{0, 0}, {1001, 1}, {-5, 0}, {6, -1}, {6, 2}, {MIN, 0}, {MAX, 1}, {6, MAX}}) {
            refused(RICH, "many(" + w[0] + ", " + w[1] + ")", x -> x.many(w[0], w[1]), BAD);
        }
        Check.says("sight: BAD.");
        for (int[] w : new int[][] {{-1, 0}, {6, 0}, {60, 0}, {600, 0}, {1000, 0}, {0, -2}, {0, 5}, {600, -1}, {MIN, 0}, {0, MAX}}) {
            refused(RICH, "sight(" + w[0] + ", " + w[1] + ")", x -> x.sight(w[0], w[1]), BAD);
        }
        Check.says("wall: BAD; STATE; NOT (k 0 on): there is none.");
        for (int k : new int[] {-2, 4, MIN, MAX}) {
            refused(RICH, "wall(" + k + ")", x -> x.wall(k), BAD);
            refused(Twins::threeInBox, "BAD ahead of STATE: wall(" + k + ")", x -> x.wall(k), BAD);
        }
        for (int k = -1; k < 4; k++) {
            int place = k;
            refused(Twins::threeInBox, "wall(" + k + ") of three", x -> x.wall(place), STATE);
            refused(Twins::emptyBox, "wall(" + k + ") of none", x -> x.wall(place), STATE);
            refused(RefusalsTest::noWall, "wall(" + k + "), none", x -> x.wall(place), k < 0 ? 0 : NOT);
        }
        Check.says("great: BAD.");
        for (int colour : new int[] {-1, 6, 7, MIN, MAX}) {
            refused(RICH, "great(" + colour + ")", x -> x.great(colour), BAD);
        }
    }

    private static void noWall(FourCubes x) {
        Twins.cubes(x, 111111, 222222, 333333, 444444);
        x.box(15);
    }

    private static void undoAndRedo() {
        Check.says("undo: STATE: none.");
        refused(x -> { }, "of a new object", FourCubes::undo, STATE);
        refused(Twins::allUndone, "all are undone", FourCubes::undo, STATE);
        Check.says("redo: STATE: none.");
        refused(x -> { }, "of a new object", FourCubes::redo, STATE);
        refused(Twins::allDone, "all are done", FourCubes::redo, STATE);
    }

    private static void bodies() {
        Check.says("body: BAD, FULL.");
        for (int kind : new int[] {-1, 8, MIN, MAX}) {
            refused(RICH, "body(" + kind + ")", x -> x.body(kind), BAD);
            refused(Twins::fiftyBodies, "BAD ahead of FULL: body(" + kind + ")", x -> x.body(kind), BAD);
        }
        refused(Twins::fiftyBodies, "the fifty-first", x -> x.body(7), FULL);
        Check.says("trace: BAD.");
        for (int i : new int[] {-1, 10, 24, MIN, MAX}) {
            refused(RICH, "trace(" + i + ")", x -> x.trace(i), BAD);
        }
    }

    private static void keepAndRow() {
        Check.says("keep: BAD.");
        for (int[] w : new int[][] {{-1, 0}, {6, 0}, {1, -2}, {1, 3}, {-1, -1}, {6, -1}, {MIN, 0}, {1, MAX}}) {
            refused(RICH, "keep(" + w[0] + ", " + w[1] + ")", x -> x.keep(w[0], w[1]), BAD);
        }
        Check.says("row: BAD (sort, n above 60); -14.");
        for (int[] w : new int[][] {{-1, 0, 3}, {6, 0, 3}, {1, -1, 3}, {1, 5, 3}, {1, 0, 61}, {1, 0, MAX}, {MIN, MIN, MAX}}) {
            refused(RICH, "row(" + w[0] + ", " + w[1] + ", " + w[2] + ")", x -> x.row(w[0], w[1], w[2]), BAD);
        }
        for (int n : new int[] {-1, -61, MIN}) {
            refused(RICH, "row(1, 0, " + n + ")", x -> x.row(1, 0, n), SIZE);
            refused(RICH, "BAD ahead of -14: no such shelf", x -> x.row(6, 0, n), BAD);
            refused(RICH, "BAD ahead of -14: no such shelf", x -> x.row(-1, 0, n), BAD);
            refused(RICH, "BAD ahead of -14: no such sort", x -> x.row(1, 5, n), BAD);
            refused(RICH, "BAD ahead of -14: no such sort", x -> x.row(1, -1, n), BAD);
        }
    }

    private static void putAndElement() {
        Check.says("put: BAD, -11, -12, -13.");
        int[][] wrong = {{-1, 0, BAD}, {6, 0, BAD}, {-1, -1, BAD}, {MIN, MAX, BAD}, {3, 0, NOTHING}, {3, -1, NOTHING}, {3, 60, NOTHING},
            {0, 0, KIND}, {0, -1, KIND}, {0, 60, KIND}, {1, -1, PLACE}, {1, 12, PLACE}, {4, 0, PLACE}, {2, 3, PLACE}, {1, MIN, PLACE}, {1, MAX, PLACE}};
        for (int[] w : wrong) {
            refused(RICH, "put(" + w[0] + ", " + w[1] + ", 5)", x -> x.put(w[0], w[1], 5), w[2]);
        }
        Check.says("element: Long.MIN_VALUE: BAD, -11 to -13.");
        for (int[] w : wrong) {
            refused(RICH, "element(" + w[0] + ", " + w[1] + ")", x -> x.element(w[0], w[1]), Long.MIN_VALUE);
        }
    }

    private static void shift() {
        Check.says("shift: BAD, -11 (either), -12 (no ROWS, or of unlike sorts), -13.");
        int[][] wrong = {
            {-1, 0, 1, 0, 1, BAD}, {6, 0, 1, 0, 1, BAD}, {1, 0, -1, 0, 1, BAD}, {1, 0, 6, 0, 1, BAD},
            {3, 0, 6, 0, 1, BAD}, {-1, 0, 3, 0, 1, BAD}, {0, 0, 6, 0, 1, BAD}, {6, -1, 1, -1, -1, BAD},
            {3, 0, 1, 0, 1, NOTHING}, {1, 0, 3, 0, 1, NOTHING}, {3, 0, 3, 0, 0, NOTHING},
            {3, 0, 0, 0, 1, NOTHING}, {0, 0, 3, 0, 1, NOTHING}, {3, -1, 1, -1, -1, NOTHING}, {1, -1, 3, -1, -1, NOTHING},
            {0, 0, 1, 0, 1, KIND}, {1, 0, 0, 0, 1, KIND}, {0, 0, 0, 0, 0, KIND}, {1, 0, 2, 0, 1, KIND}, {5, 0, 1, 0, 0, KIND},
            {0, -1, 1, 0, 1, KIND}, {1, 0, 2, -1, 1, KIND}, {1, 0, 2, 0, -1, KIND},
            {1, -1, 1, 0, 1, PLACE}, {1, 0, 1, -1, 1, PLACE}, {1, 0, 1, 0, -1, PLACE}, {1, 13, 1, 0, 0, PLACE}, {1, 0, 1, 13, 0, PLACE},
            {1, 0, 4, 0, 1, PLACE}, {4, 0, 1, 0, 1, PLACE}, {1, 6, 1, 0, 7, PLACE}, {1, 0, 1, 6, 7, PLACE}, {1, 0, 1, 0, 13, PLACE},
            {1, 1, 1, 0, MAX, PLACE}, {1, MAX, 1, 0, 1, PLACE}, {1, 0, 1, MAX, MAX, PLACE}, {1, MIN, 1, MIN, MIN, PLACE}};
        for (int[] w : wrong) {
            String call = "shift(" + w[0] + ", " + w[1] + ", " + w[2] + ", " + w[3] + ", " + w[4] + ")";
            refused(RICH, call, x -> x.shift(w[0], w[1], w[2], w[3], w[4]), w[5]);
        }
    }

    private static void takenAndCount() {
        Check.says("taken: BAD, -11, -12.");
        int[][] wrong = {{-1, 0, BAD}, {6, 0, BAD}, {0, -1, BAD}, {0, 8, BAD}, {3, -1, BAD}, {3, 8, BAD}, {1, 8, BAD}, {MAX, MIN, BAD},
            {3, 0, NOTHING}, {3, 7, NOTHING}, {1, 0, KIND}, {4, 0, KIND}, {0, 1, KIND}, {0, 7, KIND}};
        for (int[] w : wrong) {
            refused(RICH, "taken(" + w[0] + ", " + w[1] + ")", x -> x.taken(w[0], w[1]), w[2]);
        }
        Check.says("count: BAD.");
        for (int what : new int[] {-1, 6, MIN, MAX}) {
            refused(RICH, "count(" + what + ")", x -> x.count(what), BAD);
        }
    }

    /** Those that paint or exchange to find out put all back; their answers are seen to elsewhere. */
    private static void questionsChangeNothing() {
        Check.says("MEND: .. painted so; OPEN: .. with which; SWAP: .. by whose exchange.");
        FourCubes one = new FourCubes();
        Twins.rich(one);
        int mends = one.mend(0);
        int opened = one.open(15);
        int swapped = one.swap(0);
        int near = one.near(3);
        int stuck = one.build(5, 0);
        int ways = one.ways(5, -1);
        int walls = one.wall(-1);
        refused(RICH, "mend(0)", x -> x.mend(0), mends);
        refused(RICH, "open(15)", x -> x.open(15), opened);
        refused(RICH, "swap(0)", x -> x.swap(0), swapped);
        refused(RICH, "near(3)", x -> x.near(3), near);
        refused(RICH, "build(5, 0)", x -> x.build(5, 0), stuck);
        refused(RICH, "ways(5, -1)", x -> x.ways(5, -1), ways);
        refused(RICH, "wall(-1)", x -> x.wall(-1), walls);
    }
}
