/** Boundary cases of promises 3 and 29 to 34, and of SHELVES in the terms: a sentence a method. */
public final class ShelvesEdgesTest {
    private static final int BAD = -1, NOTHING = -11, KIND = -12, PLACE = -13, SIZE = -14;
    private static final int MIN = Integer.MIN_VALUE, MAX = Integer.MAX_VALUE;
    private static final long NONE = Long.MIN_VALUE;

    public static void main(String[] args) {
        sixShelves();
        bodyOrNothing();
        sortsOfRows();
        upToSixty();
        zeroAtFirst();
        lowestBits();
        elementI();
        nothingIsThere();
        comesToAnother();
        asTheyAllWere();
        placesOfAShift();
        sortsOfAShift();
        takenForAKind();
        eachHoldsItsOwn();
        cubesBySixes();
        howManyOfThem();
        rowEnds();
        rowIsMissing();
        notAsItMayBe();
        cubesAreFull();
        noRowOfBytes();
        placeThatIsNotThere();
        Check.finish("ShelvesEdgesTest");
    }

    private static void sixShelves() {
        Check.says("SHELVES 0 .. 5. keep, row, put, element, shift, taken, cubes: BAD.");
        for (int shelf : new int[] {-2, -1, 0, 1, 4, 5, 6, 7, MIN, MAX}) {
            boolean there = shelf >= 0 && shelf <= 5;
            FourCubes x = new FourCubes();
            x.body(0);
            x.row(2, 0, 6);
            Check.due("row on " + shelf, x.row(shelf, 0, 6), there ? 1 : BAD);
            Check.due("put on " + shelf, x.put(shelf, 5, 3), there ? 1 : BAD);
            Check.due("element on " + shelf, x.element(shelf, 5), there ? 3 : NONE);
            Check.due("shift from " + shelf, x.shift(shelf, 0, 2, 0, 6), there ? 6 : BAD);
            Check.due("shift to " + shelf, x.shift(2, 0, shelf, 0, 6), there ? 6 : BAD);
            Check.due("cubes from " + shelf, x.cubes(shelf, 0, 1), there ? 1 : BAD);
            Check.due("keep on " + shelf, x.keep(shelf, 0), there ? 1 : BAD);
            Check.due("taken from " + shelf, x.taken(shelf, 0), there ? 0 : BAD);
            Check.due("nothing on " + shelf, x.keep(shelf, -1), there ? 1 : BAD);
            Check.due("taken from " + shelf, x.taken(shelf, 0), there ? NOTHING : BAD);
        }
    }

    private static void bodyOrNothing() {
        Check.says("keep: A SHELF holds nothing (body -1), or a BODY: 1. BAD.");
        FourCubes x = new FourCubes();
        Check.due("nothing, of no bodies", x.keep(0, -1), 1);
        Check.due("no body 0", x.keep(0, 0), BAD);
        x.body(6);
        x.body(3);
        Check.due("below nothing", x.keep(0, -2), BAD);
        Check.due("the last", x.keep(0, 1), 1);
        Check.due("behind the last", x.keep(0, 2), BAD);
        Check.due("the least int", x.keep(0, MIN), BAD);
        Check.due("the greatest int", x.keep(0, MAX), BAD);
        Check.due("the last is still there", x.taken(0, 0), 3);
        Check.due("nothing", x.keep(0, -1), 1);
        Check.due("nothing there", x.taken(0, 0), NOTHING);
        Check.due("nothing, again", x.keep(0, -1), 1);
        x.row(0, 0, 1);
        Check.due("nothing in a row's stead", x.keep(0, -1), 1);
        Check.due("nothing there", x.put(0, 0, 1), NOTHING);
    }

    private static void sortsOfRows() {
        Check.says("a ROW: of 0 bytes, 1 shorts, 2 ints, 3 longs, 4 booleans. row: BAD (sort ..).");
        FourCubes x = new FourCubes();
        long v = 0x1234567887654321L;
        long[] due = {0x21, 0x4321, 0x87654321, v, 1};
        for (int sort = -1; sort <= 5; sort++) {
            boolean there = sort >= 0 && sort <= 4;
            Check.due("row(0, " + sort + ", 1)", x.row(0, sort, 1), there ? 1 : BAD);
            Check.due("put", x.put(0, 0, v), sort < 0 ? NOTHING : 1);
            Check.due("element", x.element(0, 0), sort < 0 ? NONE : there ? due[sort] : 1);
        }
        Check.due("the least int", x.row(0, MIN, 1), BAD);
        Check.due("the greatest int", x.row(0, MAX, 1), BAD);
    }

    private static void upToSixty() {
        Check.says("of 0 .. 60 elements. row: BAD (.. n above 60); -14 (a size below 0).");
        for (int sort = 0; sort < 5; sort++) {
            FourCubes x = new FourCubes();
            Check.due("none", x.row(0, sort, 0), 1);
            Check.due("of none no first", x.put(0, 0, 1), PLACE);
            Check.due("of none no first", x.element(0, 0), NONE);
            Check.due("one", x.row(0, sort, 1), 1);
            Check.due("its first", x.put(0, 0, 1), 1);
            Check.due("no second", x.put(0, 1, 1), PLACE);
            Check.due("below 0", x.row(0, sort, -1), SIZE);
            Check.due("the least int", x.row(0, sort, MIN), SIZE);
            Check.due("the first is still there", x.element(0, 0), 1);
            Check.due("sixty", x.row(0, sort, 60), 1);
            Check.due("the sixtieth", x.put(0, 59, 1), 1);
            Check.due("no sixty-first", x.put(0, 60, 1), PLACE);
            Check.due("sixty-one", x.row(0, sort, 61), BAD);
            Check.due("the greatest int", x.row(0, sort, MAX), BAD);
            Check.due("the sixtieth is still there", x.element(0, 59), 1);
        }
    }

    private static void zeroAtFirst() {
        Check.says("a ROW: .. 0 at first (false).");
        FourCubes x = new FourCubes();
        for (int sort = 0; sort < 5; sort++) {
            x.row(0, sort, 60);
            for (int i = 0; i < 60; i += 59) {
                Check.due("at first", x.element(0, i), 0);
                x.put(0, i, 1);
                Check.due("put", x.element(0, i), 1);
            }
        }
        x.row(0, 0, 60);
        Check.due("anew, the first", x.element(0, 0), 0);
        Check.due("anew, the last", x.element(0, 59), 0);
        x.put(0, 59, 1);
        x.row(0, 0, 1);
        x.row(0, 0, 60);
        Check.due("short, then long", x.element(0, 59), 0);
        x.put(0, 59, 1);
        x.keep(0, -1);
        x.row(0, 0, 60);
        Check.due("nothing, then a row", x.element(0, 59), 0);
    }

    private static void lowestBits() {
        Check.says("what is put in keeps its lowest bits (a boolean: whether it is not 0; 1 or 0).");
        bitsOf(0, 127, 127, 128, -128, -128, -128, -129, 127, 255, -1, 256, 0, 257, 1, Long.MAX_VALUE, -1, Long.MIN_VALUE, 0);
        bitsOf(1, 32767, 32767, 32768, -32768, -32768, -32768, -32769, 32767, 65535, -1, 65536, 0, Long.MAX_VALUE, -1, Long.MIN_VALUE, 0);
        bitsOf(2, MAX, MAX, MAX + 1L, MIN, MIN, MIN, MIN - 1L, MAX, (1L << 32) - 1, -1, 1L << 32, 0, Long.MAX_VALUE, -1, Long.MIN_VALUE, 0);
        bitsOf(3, Long.MAX_VALUE, Long.MAX_VALUE, Long.MIN_VALUE, Long.MIN_VALUE, 1L << 32, 1L << 32, -1, -1);
        bitsOf(4, 0, 0, 1, 1, -1, 1, 2, 1, 256, 1, 1L << 32, 1, Long.MAX_VALUE, 1, Long.MIN_VALUE, 1);
    }

    /** Values each with what is kept of it. */
    private static void bitsOf(int sort, long... pairs) {
        FourCubes x = new FourCubes();
        x.row(0, sort, 3);
        for (int k = 0; k < pairs.length; k += 2) {
            Check.due("put " + pairs[k] + " into sort " + sort, x.put(0, 1, pairs[k]), 1);
            Check.due("kept of " + pairs[k] + " in sort " + sort, x.element(0, 1), pairs[k + 1]);
        }
        Check.due("the one ahead", x.element(0, 0), 0);
        Check.due("the one behind", x.element(0, 2), 0);
    }

    private static void elementI() {
        Check.says("put: Element i of a ROW becomes v: 1. .. -13. element: Element i of a ROW; Long.MIN_VALUE ..");
        for (int n : new int[] {0, 1, 2, 59, 60}) {
            FourCubes x = new FourCubes();
            x.row(3, 2, n);
            for (int i : new int[] {-1, 0, n - 2, n - 1, n, n + 1, 60, 61, MIN, MAX}) {
                boolean there = i >= 0 && i < n;
                Check.due("put at " + i + " of " + n, x.put(3, i, 7), there ? 1 : PLACE);
                Check.due("element at " + i + " of " + n, x.element(3, i), there ? 7 : NONE);
            }
        }
        FourCubes x = new FourCubes();
        x.row(0, 3, 1);
        x.put(0, 0, Long.MIN_VALUE);
        Check.due("an element that is the least long", x.element(0, 0), Long.MIN_VALUE);
        Check.due("it is there", x.put(0, 0, 5), 1);
        Check.due("it is another now", x.element(0, 0), 5);
    }

    private static void nothingIsThere() {
        Check.says("-11 nothing is there where something is wanted; -12 it is of another kind.");
        FourCubes x = new FourCubes();
        x.body(0);
        x.keep(1, 0);
        x.row(2, 0, 0);
        Check.due("put on nothing", x.put(0, 0, 1), NOTHING);
        Check.due("put on a body", x.put(1, 0, 1), KIND);
        Check.due("put on a row of none", x.put(2, 0, 1), PLACE);
        Check.due("taken from nothing", x.taken(0, 0), NOTHING);
        Check.due("taken from a row", x.taken(2, 0), KIND);
        Check.due("shift from nothing", x.shift(0, 0, 2, 0, 0), NOTHING);
        Check.due("shift to nothing", x.shift(2, 0, 0, 0, 0), NOTHING);
        Check.due("shift from a body", x.shift(1, 0, 2, 0, 0), KIND);
        Check.due("shift to a body", x.shift(2, 0, 1, 0, 0), KIND);
        Check.due("element of nothing", x.element(0, 0), NONE);
        Check.due("element of a body", x.element(1, 0), NONE);
    }

    /** Rows of a sort on shelves 0 (1 2 3 4 5, as far as it can hold them) and 1 (four times 0). */
    private static FourCubes rows(int sort) {
        FourCubes x = new FourCubes();
        x.row(0, sort, 5);
        x.row(1, sort, 4);
        for (int i = 0; i < 5; i++) {
            x.put(0, i, i + 1);
        }
        return x;
    }

    private static void rowIs(String what, FourCubes x, int shelf, long... due) {
        for (int i = 0; i < due.length; i++) {
            Check.due(what + ": element(" + shelf + ", " + i + ")", x.element(shelf, i), due[i]);
        }
    }

    private static void comesToAnother() {
        Check.says("shift: n elements of a ROW from i on come to another one (or the same) from j on: n.");
        for (int sort = 0; sort < 4; sort++) {
            FourCubes x = rows(sort);
            Check.due("none", x.shift(0, 0, 1, 0, 0), 0);
            rowIs("none", x, 1, 0, 0, 0, 0);
            Check.due("one, the last to the last", x.shift(0, 4, 1, 3, 1), 1);
            rowIs("one", x, 1, 0, 0, 0, 5);
            Check.due("all that the other holds", x.shift(0, 1, 1, 0, 4), 4);
            rowIs("all", x, 1, 2, 3, 4, 5);
            rowIs("the one is as it was", x, 0, 1, 2, 3, 4, 5);
        }
        FourCubes x = rows(4);
        x.put(0, 1, 0);
        Check.due("booleans", x.shift(0, 0, 1, 1, 3), 3);
        rowIs("booleans", x, 1, 0, 1, 0, 1);
        FourCubes y = new FourCubes();
        y.row(0, 2, 60);
        y.row(1, 2, 60);
        y.put(0, 59, 9);
        Check.due("sixty", y.shift(0, 0, 1, 0, 60), 60);
        Check.due("the sixtieth", y.element(1, 59), 9);
    }

    private static void asTheyAllWere() {
        Check.says("shift: .. as they all were before.");
        for (int sort = 0; sort < 4; sort++) {
            FourCubes up = rows(sort);
            Check.due("up by one", up.shift(0, 0, 0, 1, 4), 4);
            rowIs("up by one", up, 0, 1, 1, 2, 3, 4);
            FourCubes down = rows(sort);
            Check.due("down by one", down.shift(0, 1, 0, 0, 4), 4);
            rowIs("down by one", down, 0, 2, 3, 4, 5, 5);
            FourCubes farther = rows(sort);
            Check.due("up by two", farther.shift(0, 0, 0, 2, 3), 3);
            rowIs("up by two", farther, 0, 1, 2, 1, 2, 3);
            FourCubes stays = rows(sort);
            Check.due("onto itself", stays.shift(0, 0, 0, 0, 5), 5);
            rowIs("onto itself", stays, 0, 1, 2, 3, 4, 5);
        }
    }

    private static void placesOfAShift() {
        Check.says("shift: .. -13 (a place that is not there).");
        int[] edges = {MIN, -1, 0, 1, 2, 3, 4, 5, 6, MAX};
        for (int i : edges) {
            for (int j : edges) {
                for (int n : edges) {
                    boolean from = i >= 0 && n >= 0 && (long) i + n <= 5;
                    boolean to = j >= 0 && n >= 0 && (long) j + n <= 4;
                    FourCubes x = rows(2);
                    Check.due("shift(0, " + i + ", 1, " + j + ", " + n + ")", x.shift(0, i, 1, j, n), from && to ? n : PLACE);
                }
            }
        }
        FourCubes x = new FourCubes();
        x.row(0, 2, 0);
        x.row(1, 2, 60);
        Check.due("none of a row of none", x.shift(0, 0, 1, 60, 0), 0);
        Check.due("none, behind the end", x.shift(0, 0, 1, 61, 0), PLACE);
        Check.due("none, behind the end", x.shift(0, 1, 1, 0, 0), PLACE);
        Check.due("one of a row of none", x.shift(0, 0, 1, 0, 1), PLACE);
        Check.due("none to a row of none", x.shift(1, 60, 0, 0, 0), 0);
    }

    private static void sortsOfAShift() {
        Check.says("shift: .. -12 (no ROWS, or of unlike sorts).");
        for (int one = 0; one < 5; one++) {
            for (int other = 0; other < 5; other++) {
                FourCubes x = new FourCubes();
                x.row(0, one, 2);
                x.row(1, other, 2);
                Check.due("sort " + one + " to " + other, x.shift(0, 0, 1, 0, 2), one == other ? 2 : KIND);
                Check.due("none of sort " + one + " to " + other, x.shift(0, 2, 1, 2, 0), one == other ? 0 : KIND);
            }
        }
        FourCubes x = new FourCubes();
        x.body(0);
        x.keep(0, 0);
        x.keep(1, 0);
        Check.due("a body to a body", x.shift(0, 0, 1, 0, 0), KIND);
        Check.due("a body to itself", x.shift(0, 0, 0, 0, 0), KIND);
    }

    private static void takenForAKind() {
        Check.says("taken: What a SHELF holds, taken for a BODY of KIND k (0 .. 7), or under it: its KIND. BAD, -11, -12.");
        String[] above = {"0", "10", "20", "320", "410", "5410", "60", "760"};
        FourCubes x = new FourCubes();
        for (int kind = 0; kind < 8; kind++) {
            x.body(kind);
            x.keep(0, kind);
            for (int k = -1; k <= 8; k++) {
                int due = k < 0 || k > 7 ? BAD : above[kind].indexOf('0' + k) >= 0 ? kind : KIND;
                Check.due("kind " + kind + " taken for " + k, x.taken(0, k), due);
            }
        }
        Check.due("the least int", x.taken(0, MIN), BAD);
        Check.due("the greatest int", x.taken(0, MAX), BAD);
        x.row(0, 4, 0);
        for (int k = 0; k < 8; k++) {
            Check.due("a row taken for " + k, x.taken(0, k), KIND);
            Check.due("nothing taken for " + k, x.taken(1, k), NOTHING);
        }
    }

    private static void eachHoldsItsOwn() {
        Check.says("SHELVES each hold nothing (at first), a BODY, or a ROW.");
        FourCubes x = new FourCubes();
        x.body(2);
        for (int shelf = 0; shelf < 6; shelf++) {
            Check.due("nothing at first", x.taken(shelf, 0), NOTHING);
            x.row(shelf, 2, shelf + 1);
            x.put(shelf, shelf, 10 + shelf);
        }
        for (int shelf = 0; shelf < 6; shelf++) {
            Check.due("its last", x.element(shelf, shelf), 10 + shelf);
            Check.due("behind its last", x.element(shelf, shelf + 1), NONE);
        }
        Check.due("a body on the last", x.keep(5, 0), 1);
        Check.due("the one ahead is what it was", x.element(4, 4), 14);
        Check.due("one body on two", x.keep(0, 0), 1);
        Check.due("on the one", x.taken(0, 2), 2);
        Check.due("on the other", x.taken(5, 2), 2);
    }

    /** An object with a row of bytes on shelf 0 whose elements go 0, 1, .. 6, 0, 1 .. */
    private static FourCubes bytes(int n) {
        FourCubes x = new FourCubes();
        x.row(0, 0, n);
        for (int i = 0; i < n; i++) {
            x.put(0, i, i % 7);
        }
        return x;
    }

    private static void cubesBySixes() {
        Check.says("CUBES FROM A ROW of bytes, from place i on: by sixes the COLOURS (0 .. 6) of FACES 0 to 5.");
        for (int i : new int[] {0, 1, 5, 6, 12}) {
            FourCubes x = bytes(60);
            Check.due("eight from " + i, x.cubes(0, i, 8), 8);
            for (int k = 0; k < 48; k++) {
                Check.due("face " + k + " from " + i, x.of(k / 6, k % 6), (i + k) % 7);
            }
            Check.due("no changes", x.count(3), 0);
            Check.due("the box is empty still", x.count(1), 0);
        }
    }

    private static void howManyOfThem() {
        Check.says("cubes: n (1 .. 8) of them: how many came. BAD.");
        for (int n : new int[] {MIN, -1, 0, 1, 2, 7, 8, 9, MAX}) {
            FourCubes x = bytes(60);
            boolean may = n >= 1 && n <= 8;
            Check.due("n " + n, x.cubes(0, 0, n), may ? n : BAD);
            Check.due("that many", x.count(0), may ? n : 0);
            Check.due("n " + n + ", missing", x.cubes(1, 0, n), may ? 0 : BAD);
        }
    }

    private static void rowEnds() {
        Check.says("CUBES FROM A ROW: it ends where the row .. ends (within a six, too): those ahead came.");
        for (int n : new int[] {0, 1, 5, 6, 7, 11, 12, 13, 17, 18, 47, 48, 59, 60}) {
            FourCubes x = bytes(n);
            int sixes = Math.min(8, n / 6);
            Check.due("a row of " + n, x.cubes(0, 0, 8), sixes);
            Check.due("so many cubes", x.count(0), sixes);
        }
        for (int i : new int[] {49, 53, 54, 55, 59, 60, 61, MAX - 5, MAX}) {
            FourCubes x = bytes(60);
            Check.due("from " + i, x.cubes(0, i, 2), i <= 54 ? 1 : 0);
            Check.due("so many cubes", x.count(0), i <= 54 ? 1 : 0);
        }
        Check.due("two from 48", bytes(60).cubes(0, 48, 3), 2);
    }

    private static void rowIsMissing() {
        Check.says("CUBES FROM A ROW: it ends where the row is missing. cubes: a SHELF that holds nothing is missing.");
        for (int i : new int[] {MIN, -1, 0, 1, 60, MAX}) {
            FourCubes x = new FourCubes();
            Check.due("from " + i + ", 1", x.cubes(5, i, 1), 0);
            Check.due("from " + i + ", 8", x.cubes(5, i, 8), 0);
            x.row(5, 0, 12);
            x.keep(5, -1);
            Check.due("from " + i + ", taken away", x.cubes(5, i, 1), 0);
            Check.due("none came", x.count(0), 0);
        }
    }

    private static void notAsItMayBe() {
        Check.says("CUBES FROM A ROW: it ends where .. one is not as it may be: those ahead came.");
        for (int at = 0; at < 18; at++) {
            for (int v : new int[] {-128, -1, 0, 6, 7, 127}) {
                FourCubes x = bytes(18);
                x.put(0, at, v);
                boolean may = v >= 0 && v <= 6;
                Check.due(v + " at " + at, x.cubes(0, 0, 3), may ? 3 : at / 6);
                Check.due("so many cubes", x.count(0), may ? 3 : at / 6);
            }
        }
        FourCubes x = bytes(18);
        x.put(0, 18 - 1, 7);
        Check.due("behind those that are wanted", x.cubes(0, 0, 2), 2);
        x.put(0, 0, 7);
        Check.due("ahead of those that are wanted", x.cubes(0, 1, 1), 1);
    }

    private static void cubesAreFull() {
        Check.says("CUBES FROM A ROW: it ends where .. CUBES are FULL: those ahead came.");
        for (int there = 0; there <= 8; there++) {
            FourCubes x = bytes(60);
            for (int k = 0; k < there; k++) {
                x.cube(111111);
            }
            Check.due("eight to " + there, x.cubes(0, 0, 8), 8 - there);
            Check.due("eight", x.count(0), 8);
            Check.due("one more", x.cubes(0, 0, 1), 0);
            Check.due("no more by call", x.cube(111111), -3);
            Check.due("those there are as they were", x.of(0, 1), there == 0 ? 1 : 0);
        }
    }

    private static void noRowOfBytes() {
        Check.says("cubes: -12 (no ROW of bytes ..).");
        for (int sort = 0; sort < 5; sort++) {
            FourCubes x = new FourCubes();
            x.row(0, sort, 12);
            Check.due("sort " + sort, x.cubes(0, 0, 2), sort == 0 ? 2 : KIND);
            x.row(0, sort, 0);
            Check.due("none of sort " + sort, x.cubes(0, 0, 2), sort == 0 ? 0 : KIND);
        }
        FourCubes x = new FourCubes();
        x.body(0);
        x.keep(0, 0);
        Check.due("a body", x.cubes(0, 0, 1), KIND);
        Check.due("a body, from -1", x.cubes(0, -1, 1), KIND);
        Check.due("none came", x.count(0), 0);
    }

    private static void placeThatIsNotThere() {
        Check.says("CUBES FROM A ROW of bytes, from place i on: below 0 no six is there.");
        for (int i : new int[] {MIN, MIN + 1, -60, -7, -6, -5, -1}) {
            FourCubes x = bytes(60);
            Check.due("from " + i, x.cubes(0, i, 8), 0);
            Check.due("none came", x.count(0), 0);
        }
    }
}
