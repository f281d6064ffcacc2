/** Promises 3 and 29 to 34: shelves, rows, cubes from a row. */
public final class ShelvesTest {
    private static final int BAD = -1, NOTHING = -11, KIND = -12, PLACE = -13, SIZE = -14;
    private static final int MIN = Integer.MIN_VALUE, MAX = Integer.MAX_VALUE;

    public static void main(String[] args) {
        keepAndTaken();
        row();
        putAndElement();
        lowestBits();
        shift();
        shiftRefusals();
        cubesFromRow();
        cubesRefusals();
        cubesFromBelowZero();
        Check.finish("ShelvesTest");
    }

    private static void keepAndTaken() {
        int[][] over = {{0}, {0, 1}, {0, 2}, {0, 2, 3}, {0, 1, 4}, {0, 1, 4, 5}, {0, 6}, {0, 6, 7}};
        FourCubes x = new FourCubes();
        for (int kind = 0; kind < 8; kind++) {
            x.body(kind);
        }
        for (int kind = 0; kind < 8; kind++) {
            Check.due("keep", x.keep(5, kind), 1);
            for (int k = 0; k < 8; k++) {
                boolean under = false;
                for (int o : over[kind]) {
                    under |= o == k;
                }
                Check.due("kind " + kind + " taken for " + k, x.taken(5, k), under ? kind : KIND);
            }
        }
        Check.due("nothing", x.keep(5, -1), 1);
        Check.due("nothing there", x.taken(5, 0), NOTHING);
        x.row(5, 0, 0);
        Check.due("a row", x.taken(5, 0), KIND);
        int[][] wrong = {{-1, 0}, {6, 0}, {0, 8}, {0, -2}, {MIN, 0}, {MAX, 0}, {0, MIN}, {0, MAX}};
        for (int[] w : wrong) {
            Check.due("keep(" + w[0] + ", " + w[1] + ")", x.keep(w[0], w[1]), BAD);
        }
        int[][] wrongTaken = {{-1, 0}, {6, 0}, {0, 8}, {0, -1}, {MAX, 0}, {0, MIN}};
        for (int[] w : wrongTaken) {
            Check.due("taken(" + w[0] + ", " + w[1] + ")", x.taken(w[0], w[1]), BAD);
        }
    }

    private static void row() {
        FourCubes x = new FourCubes();
        Check.due("a row of none", x.row(0, 0, 0), 1);
        Check.due("it has no place", x.put(0, 0, 1), PLACE);
        Check.due("the longest", x.row(0, 3, 60), 1);
        Check.due("its last", x.put(0, 59, 9), 1);
        Check.due("behind its last", x.put(0, 60, 9), PLACE);
        Check.due("anew", x.row(0, 3, 60), 1);
        Check.due("0 at first", x.element(0, 59), 0);
        x.put(0, 0, 4);
        Check.due("too long", x.row(0, 3, 61), BAD);
        Check.due("below 0", x.row(0, 3, -1), SIZE);
        Check.due("least", x.row(0, 3, MIN), SIZE);
        Check.due("no sort, below 0", x.row(0, 5, -1), BAD);
        Check.due("no sort", x.row(0, -1, 3), BAD);
        Check.due("no shelf", x.row(6, 0, 3), BAD);
        Check.due("no shelf, below 0", x.row(-1, 0, -3), BAD);
        Check.due("most", x.row(0, 0, MAX), BAD);
        Check.due("unchanged", x.element(0, 0), 4);
        x.body(0);
        Check.due("a body in its stead", x.keep(0, 0), 1);
        Check.due("no row", x.element(0, 0), Long.MIN_VALUE);
        Check.due("a row in its stead", x.row(0, 4, 1), 1);
        Check.due("no body", x.taken(0, 0), KIND);
    }

    private static void putAndElement() {
        FourCubes x = new FourCubes();
        x.body(0);
        x.keep(1, 0);
        x.row(2, 2, 3);
        int[] noShelf = {-1, 6, MIN, MAX};
        for (int shelf : noShelf) {
            Check.due("put on " + shelf, x.put(shelf, 0, 1), BAD);
            Check.due("element on " + shelf, x.element(shelf, 0), Long.MIN_VALUE);
        }
        Check.due("nothing there", x.put(0, 0, 1), NOTHING);
        Check.due("nothing there, no place", x.put(0, -1, 1), NOTHING);
        Check.due("a body", x.put(1, 0, 1), KIND);
        Check.due("a body, no place", x.put(1, -1, 1), KIND);
        int[] noPlace = {-1, 3, MIN, MAX};
        for (int i : noPlace) {
            Check.due("put at " + i, x.put(2, i, 1), PLACE);
            Check.due("element at " + i, x.element(2, i), Long.MIN_VALUE);
        }
        Check.due("nothing there", x.element(0, 0), Long.MIN_VALUE);
        Check.due("a body", x.element(1, 0), Long.MIN_VALUE);
        Check.due("put", x.put(2, 2, -5), 1);
        Check.due("element", x.element(2, 2), -5);
        Check.due("the others", x.element(2, 1), 0);
    }

    private static void lowestBits() {
        long[] values = {0, 1, -1, 127, 128, 255, 256, -129, 32767, 32768, 65536, 1L << 31, 1L << 32, -(1L << 31) - 1,
            Long.MAX_VALUE, Long.MIN_VALUE, 0x123456789ABCDEFL};
        FourCubes x = new FourCubes();
        for (int sort = 0; sort < 5; sort++) {
            x.row(sort, sort, 1);
        }
        for (long v : values) {
            for (int sort = 0; sort < 5; sort++) {
                Check.due("put " + v, x.put(sort, 0, v), 1);
            }
            Check.due("byte " + v, x.element(0, 0), (byte) v);
            Check.due("short " + v, x.element(1, 0), (short) v);
            Check.due("int " + v, x.element(2, 0), (int) v);
            Check.due("long " + v, x.element(3, 0), v);
            Check.due("boolean " + v, x.element(4, 0), v == 0 ? 0 : 1);
        }
    }

    private static FourCubes withRows() {
        FourCubes x = new FourCubes();
        x.row(0, 2, 5);
        x.row(1, 2, 4);
        for (int i = 0; i < 5; i++) {
            x.put(0, i, 10 + i);
        }
        return x;
    }

    private static void rowIs(FourCubes x, int shelf, long... due) {
        for (int i = 0; i < due.length; i++) {
            Check.due("element(" + shelf + ", " + i + ")", x.element(shelf, i), due[i]);
        }
    }

    private static void shift() {
        FourCubes x = withRows();
        Check.due("up", x.shift(0, 0, 0, 1, 4), 4);
        rowIs(x, 0, 10, 10, 11, 12, 13);
        x = withRows();
        Check.due("down", x.shift(0, 1, 0, 0, 4), 4);
        rowIs(x, 0, 11, 12, 13, 14, 14);
        x = withRows();
        Check.due("to another", x.shift(0, 2, 1, 1, 3), 3);
        rowIs(x, 1, 0, 12, 13, 14);
        rowIs(x, 0, 10, 11, 12, 13, 14);
        Check.due("none, at the ends", x.shift(0, 5, 1, 4, 0), 0);
        Check.due("all", x.shift(1, 0, 0, 1, 4), 4);
        rowIs(x, 0, 10, 0, 12, 13, 14);
    }

    private static void shiftRefusals() {
        FourCubes x = withRows();
        x.row(2, 3, 5);
        x.body(0);
        x.keep(3, 0);
        Check.due("no shelf", x.shift(-1, 0, 0, 0, 1), BAD);
        Check.due("no other shelf", x.shift(4, 0, 6, 0, 1), BAD);
        Check.due("nothing there", x.shift(4, 0, 3, 0, 1), NOTHING);
        Check.due("nothing in the other", x.shift(3, 0, 5, 0, 1), NOTHING);
        Check.due("a body", x.shift(3, 0, 0, 0, 1), KIND);
        Check.due("to a body", x.shift(0, 9, 3, 0, 1), KIND);
        x.row(5, 0, 5);
        Check.due("a body to bytes", x.shift(3, 0, 5, 0, 0), KIND);
        Check.due("bytes to a body", x.shift(5, 0, 3, 0, 0), KIND);
        x.keep(5, -1);
        Check.due("bodies both", x.shift(3, 0, 3, 0, 0), KIND);
        Check.due("unlike sorts", x.shift(0, -1, 2, 0, 1), KIND);
        int[][] noPlace = {{-1, 0, 1}, {0, -1, 1}, {6, 0, 0}, {0, 5, 0}, {0, 0, 5}, {2, 0, 4}, {0, 1, 4}, {0, 0, -1},
            {MAX, 0, 1}, {1, 1, MAX}, {MIN, MIN, MIN}, {5, 4, 1}};
        for (int[] p : noPlace) {
            Check.due("shift(0, " + p[0] + ", 1, " + p[1] + ", " + p[2] + ")", x.shift(0, p[0], 1, p[1], p[2]), PLACE);
        }
        rowIs(x, 1, 0, 0, 0, 0);
    }

    private static void cubesFromRow() {
        FourCubes x = new FourCubes();
        x.row(0, 0, 60);
        for (int i = 0; i < 60; i++) {
            x.put(0, i, i % 7);
        }
        Check.due("two", x.cubes(0, 3, 2), 2);
        for (int i = 0; i < 12; i++) {
            Check.due("face " + i, x.of(i / 6, i % 6), (i + 3) % 7);
        }
        Check.due("a turning", x.of(1, 6), 16);
        Check.due("no changes", x.count(3), 0);
        Check.due("the last six", x.cubes(0, 54, 8), 1);
        Check.due("within a six it ends", x.cubes(0, 55, 8), 0);
        Check.due("behind the end", x.cubes(0, 60, 1), 0);
        Check.due("far behind the end", x.cubes(0, MAX, 1), 0);
        x.put(0, 17, 7);
        Check.due("one is not as it may be", x.cubes(0, 6, 8), 1);
        x.put(0, 17, -1);
        Check.due("one is below 0", x.cubes(0, 6, 8), 1);
        x.put(0, 17, 6);
        Check.due("five are there", x.count(0), 5);
        Check.due("until they are full", x.cubes(0, 0, 8), 3);
        Check.due("full", x.cubes(0, 0, 8), 0);
        Check.due("eight", x.count(0), 8);
    }

    private static void cubesRefusals() {
        FourCubes x = new FourCubes();
        x.body(0);
        x.keep(0, 0);
        x.row(1, 2, 12);
        x.row(2, 4, 12);
        x.row(3, 0, 12);
        Check.due("a body", x.cubes(0, 0, 1), KIND);
        Check.due("ints", x.cubes(1, 0, 1), KIND);
        Check.due("booleans", x.cubes(2, 0, 1), KIND);
        Check.due("missing", x.cubes(4, 0, 1), 0);
        int[][] wrong = {{-1, 0, 1}, {6, 0, 1}, {3, 0, 0}, {3, 0, 9}, {3, 0, -1}, {4, 0, 9}, {0, 0, 0}, {MIN, 0, 1}, {3, 0, MAX},
            {3, -1, 0}, {4, -1, 9}, {6, -1, 1}};
        for (int[] w : wrong) {
            Check.due("cubes(" + w[0] + ", " + w[1] + ", " + w[2] + ")", x.cubes(w[0], w[1], w[2]), BAD);
        }
        Check.due("none came", x.count(0), 0);
    }

    /** The document tells no range of the place: none below 0 is BAD, and none has a six. */
    private static void cubesFromBelowZero() {
        FourCubes x = new FourCubes();
        x.body(0);
        x.keep(0, 0);
        x.row(1, 1, 12);
        x.row(2, 0, 0);
        x.row(3, 0, 60);
        for (int i : new int[] {-1, -5, -6, -7, -48, MIN, MIN + 5}) {
            Check.due("a body, from " + i, x.cubes(0, i, 1), KIND);
            Check.due("shorts, from " + i, x.cubes(1, i, 1), KIND);
            Check.due("an empty row, from " + i, x.cubes(2, i, 1), 0);
            Check.due("a row, from " + i, x.cubes(3, i, 8), 0);
            Check.due("missing, from " + i, x.cubes(4, i, 8), 0);
        }
        Check.due("none came", x.count(0), 0);
        Check.due("from 0 they come", x.cubes(3, 0, 8), 8);
    }
}
