/** Boundary cases of promises 1, 2, 4 to 6, 9, 10 and 35, and of their terms: a sentence a method. */
public final class CubesEdgesTest {
    private static final int BAD = -1, NOT = -2, FULL = -3, STATE = -5, NOTHING = -11;
    private static final int MIN = Integer.MIN_VALUE, MAX = Integer.MAX_VALUE;
    private static final int[] EIGHT = {111111, 222222, 333333, 444444, 555555, 666666, 777777, 123456};

    public static void main(String[] args) {
        noCubes();
        itsOwn();
        through512Calls();
        colours();
        sixDigits();
        cubesAsTheyCome();
        fullAtEight();
        faceOfACube();
        becomesOfAColour();
        ofACube();
        lines();
        turningAtFirst();
        atMostFour();
        bitsThatAreThere();
        leastNumberLowest();
        turnings();
        rowsAreTurned();
        showsWhat();
        howMany();
        Check.finish("CubesEdgesTest");
    }

    private static void noCubes() {
        Check.says("FourCubes(): No cubes. THE BOX: .. none at first. SHELVES .. each hold nothing (at first).");
        FourCubes x = new FourCubes();
        for (int what = 0; what < 6; what++) {
            Check.due("count(" + what + ")", x.count(what), 0);
        }
        Check.due("no cube 0", x.of(0, 0), BAD);
        Check.due("no face to paint", x.paint(0, 0), BAD);
        Check.due("none to turn", x.turn(0, 0), BAD);
        Check.due("none that shows", x.shows(0, 0, 0), BAD);
        Check.due("none to be alike", x.alike(0), BAD);
        Check.due("none that is seen", x.sight(0, 0), BAD);
        Check.due("no cube for the box", x.box(1), BAD);
        Check.due("the box was empty", x.box(0), 0);
        Check.due("none to hold", x.ways(1, -1), BAD);
        Check.due("none to hold", x.near(1), BAD);
        Check.due("no change", x.undo(), STATE);
        Check.due("no change undone", x.redo(), STATE);
        Check.due("no body", x.keep(0, 0), BAD);
        Check.due("no trace", x.trace(0), BAD);
        for (int shelf = 0; shelf < 6; shelf++) {
            Check.due("nothing on " + shelf, x.put(shelf, 0, 1), NOTHING);
        }
        Check.due("no byte", x.law(), -100);
        Check.due("the first cube", x.cube(111111), 0);
        Check.due("the first body", x.body(0), 0);
    }

    private static void itsOwn() {
        Check.says("All memory is the class's own.");
        FourCubes x = new FourCubes();
        Twins.rich(x);
        Check.due("five in the one", x.count(0), 5);
        FourCubes y = new FourCubes();
        for (int what = 0; what < 6; what++) {
            Check.due("count(" + what + ") of the other", y.count(what), 0);
        }
        Check.due("nothing on the other's shelf", y.taken(0, 0), NOTHING);
        Check.due("the other's cube", y.cube(666666), 0);
        y.turn(0, 5);
        y.cube(666666);
        y.box(3);
        Check.due("the other is without a text", y.judge(), 1);
        y.row(1, 3, 60);
        Check.due("five in the one", x.count(0), 5);
        Check.due("the one's box", x.count(1), 15);
        Check.due("the one's face", x.of(1, 1), 6);
        Check.due("the one's turning", x.of(0, 6), 3);
        Check.due("the one's row", x.element(1, 11), 4);
    }

    private static void through512Calls() {
        Check.says("An object is used for at most 512 calls after it has been made.");
        FourCubes x = new FourCubes();
        Check.due("call 1", x.cube(111111), 0);
        int was = 0;
        for (int call = 2; call <= 509; call++) {
            Check.due("call " + call, x.paint(0, call % 2), was);
            was = call % 2;
        }
        Check.due("call 510", x.count(3), 40);
        Check.due("call 511", x.undo(), 39);
        Check.due("call 512", x.of(0, 0), 0);
        for (int n : new int[] {1, 511}) {
            FourCubes y = new FourCubes();
            for (int call = 1; call <= n; call++) {
                y.feed(call % 2 == 1 ? 'a' : '?');
            }
            Check.due("call " + (n + 1), y.law(), n == 1 ? 1 : -103);
        }
    }

    private static void colours() {
        Check.says("cube: COLOUR and 1 each (7: WORN): of each FACE 0, 1 .. 7, 8.");
        for (int face = 0; face < 6; face++) {
            int unit = 100000;
            for (int k = 0; k < face; k++) {
                unit /= 10;
            }
            FourCubes x = new FourCubes();
            Check.due("digit 0 of face " + face, x.cube(333333 - 3 * unit), BAD);
            Check.due("digit 8 of face " + face, x.cube(333333 + 5 * unit), BAD);
            Check.due("digit 9 of face " + face, x.cube(333333 + 6 * unit), BAD);
            Check.due("none came", x.count(0), 0);
            for (int digit = 1; digit <= 7; digit++) {
                Check.due("digit " + digit + " of face " + face, x.cube(333333 + (digit - 3) * unit), digit - 1);
                for (int f = 0; f < 6; f++) {
                    Check.due("its face " + f, x.of(digit - 1, f), f == face ? digit - 1 : 2);
                }
            }
        }
    }

    private static void sixDigits() {
        Check.says("cube: six digits.");
        FourCubes x = new FourCubes();
        for (int colours : new int[] {0, 7, 11111, 77777, 99999, 100000, 111110, 777778, 999999, 1000000, 1111111, 7777777, 1111111111}) {
            Check.due("cube(" + colours + ")", x.cube(colours), BAD);
        }
        for (int colours : new int[] {-1, -111111, -777777, MIN, MIN + 1, MAX}) {
            Check.due("cube(" + colours + ")", x.cube(colours), BAD);
        }
        Check.due("the least", x.cube(111111), 0);
        Check.due("the greatest", x.cube(777777), 1);
    }

    private static void cubesAsTheyCome() {
        Check.says("CUBES 0 .. 7, as they come.");
        FourCubes x = Check.heap(EIGHT);
        for (int cube = 0; cube < 8; cube++) {
            Check.due("front of " + cube, x.of(cube, 0), EIGHT[cube] / 100000 - 1);
        }
        Check.due("none below", x.of(-1, 0), BAD);
        Check.due("none above", x.of(8, 0), BAD);
    }

    private static void fullAtEight() {
        Check.says("cube: FULL: 8.");
        FourCubes x = Check.heap(111111, 111111, 111111, 111111, 111111, 111111, 111111);
        Check.due("seven", x.count(0), 7);
        Check.due("the eighth", x.cube(222222), 7);
        Check.due("the ninth", x.cube(333333), FULL);
        Check.due("the ninth, again", x.cube(333333), FULL);
        Check.due("eight", x.count(0), 8);
        Check.due("the eighth is as it was", x.of(7, 0), 1);
    }

    private static void faceOfACube() {
        Check.says("paint: cf: 10 times the CUBE and the FACE.");
        FourCubes x = Check.heap(EIGHT);
        for (int cf = -12; cf < 100; cf++) {
            boolean there = cf >= 0 && cf / 10 < 8 && cf % 10 < 6;
            int was = there ? x.of(cf / 10, cf % 10) : BAD;
            Check.due("paint(" + cf + ", 3)", x.paint(cf, 3), was);
        }
        FourCubes y = Check.heap(111111, 111111);
        Check.due("the last face of the last cube", y.paint(15, 1), 0);
        Check.due("behind it", y.paint(16, 1), BAD);
        Check.due("a cube that is not there", y.paint(20, 1), BAD);
        Check.due("the least int", y.paint(MIN, 1), BAD);
        Check.due("the greatest int", y.paint(MAX, 1), BAD);
        Check.due("one was painted", y.count(3), 1);
    }

    private static void becomesOfAColour() {
        Check.says("paint: becomes of a COLOUR, or WORN: what it was.");
        FourCubes x = Check.heap(777777);
        int was = 6;
        for (int colour = -1; colour <= 7; colour++) {
            boolean may = colour >= 0 && colour <= 6;
            Check.due("paint(5, " + colour + ")", x.paint(5, colour), may ? was : BAD);
            was = may ? colour : was;
            Check.due("it is", x.of(0, 5), was);
        }
        Check.due("the others are as they were", x.of(0, 4), 6);
    }

    private static void ofACube() {
        Check.says("of: 0 to 5 its FACES' COLOURS, 6 its TURNING, 10 to 12 its LINES. BAD.");
        FourCubes x = Check.heap(111111, 124567);
        int[] due = {BAD, 0, 1, 3, 4, 5, 6, 16, BAD, BAD, BAD, 3, 14, 56, BAD, BAD};
        for (int what = -1; what <= 14; what++) {
            Check.due("of(1, " + what + ")", x.of(1, what), due[what + 1]);
        }
        Check.due("cube -1", x.of(-1, 0), BAD);
        Check.due("cube 2", x.of(2, 0), BAD);
        Check.due("cube -1, its turning", x.of(-1, 6), BAD);
        Check.due("cube 2, its line", x.of(2, 12), BAD);
        Check.due("the least ints", x.of(MIN, MIN), BAD);
        Check.due("the greatest ints", x.of(MAX, MAX), BAD);
    }

    private static void lines() {
        Check.says("LINES: 0 front and back, 1 right and left, 2 top and bottom: 10 times the lesser, and the other.");
        for (int one = 0; one <= 6; one++) {
            for (int other = 0; other <= 6; other++) {
                FourCubes x = Check.heap(111111);
                int[][] ends = {{0, 2}, {1, 3}, {4, 5}};
                for (int line = 0; line < 3; line++) {
                    x.paint(ends[line][0], one);
                    x.paint(ends[line][1], other);
                    int due = 10 * Math.min(one, other) + Math.max(one, other);
                    Check.due("line " + line + " of " + one + " and " + other, x.of(0, 10 + line), due);
                    Check.due("the next line", line < 2 ? x.of(0, 11 + line) : 0, 0);
                }
            }
        }
    }

    private static void turningAtFirst() {
        Check.says("Each CUBE has a TURNING (16 at first).");
        FourCubes x = new FourCubes();
        x.row(0, 0, 60);
        for (int k = 0; k < 4; k++) {
            x.cube(123456);
            x.cubes(0, 0, 1);
        }
        for (int cube = 0; cube < 8; cube++) {
            Check.due("turning of " + cube, x.of(cube, 6), 16);
            Check.due("turn(" + cube + ", " + cube + ")", x.turn(cube, cube), 16);
        }
        for (int cube = 0; cube < 8; cube++) {
            Check.due("turning of " + cube, x.of(cube, 6), cube);
        }
    }

    private static void atMostFour() {
        Check.says("THE BOX: CUBES (bits; at most 4). box: which it was. BAD (more than 4 ..).");
        FourCubes x = Check.heap(EIGHT);
        int was = 0;
        for (int bits = 0; bits < 256; bits++) {
            boolean may = Integer.bitCount(bits) <= 4;
            Check.due("box(" + bits + ")", x.box(bits), may ? was : BAD);
            was = may ? bits : was;
        }
        Check.due("the last of four", x.count(1), 240);
    }

    private static void bitsThatAreThere() {
        Check.says("box: BAD (.. not there).");
        for (int n = 0; n <= 8; n++) {
            FourCubes x = new FourCubes();
            for (int k = 0; k < n; k++) {
                x.cube(111111);
            }
            Check.due("none, of " + n, x.box(0), 0);
            Check.due("the last there, of " + n, x.box(n == 0 ? 0 : 1 << n - 1), 0);
            Check.due("the first not there, of " + n, x.box(1 << n), BAD);
            Check.due("it and the first, of " + n, x.box(1 << n | 1), BAD);
            Check.due("bit 30", x.box(1 << 30), BAD);
            Check.due("bit 31", x.box(MIN), BAD);
            Check.due("bit 31 and the first", x.box(MIN | 1), BAD);
            Check.due("all bits", x.box(-1), BAD);
            Check.due("as it was", x.count(1), n == 0 ? 0 : 1 << n - 1);
        }
    }

    private static void leastNumberLowest() {
        Check.says("THE TOWER: these one on another, the least number lowest.");
        FourCubes x = Check.ruled("a<b", 0x90, EIGHT);
        // Cube 4 is of 4, cube 7 shows 0 .. 3 on its sides: 4 below is not less.
        Check.due("4 under 7", x.judge(), 1);
        x.box(0x21);
        Check.due("0 under 5", x.judge(), NOT);
    }

    private static void turnings() {
        Check.says("turn: A CUBE has a TURNING (0 .. 23): which it had. BAD.");
        FourCubes x = Check.heap(111111, 222222);
        int had = 16;
        for (int t = -2; t <= 25; t++) {
            boolean may = t >= 0 && t <= 23;
            Check.due("turn(1, " + t + ")", x.turn(1, t), may ? had : BAD);
            had = may ? t : had;
            Check.due("it has", x.of(1, 6), had);
        }
        Check.due("the other as it was", x.of(0, 6), 16);
        Check.due("cube -1", x.turn(-1, 0), BAD);
        Check.due("cube 2", x.turn(2, 0), BAD);
        Check.due("cube 0", x.turn(0, 0), 16);
        Check.due("cube 0, as it is", x.turn(0, 0), 0);
        for (int any : new int[] {MIN, MAX}) {
            Check.due("turn(" + any + ", 0)", x.turn(any, 0), BAD);
            Check.due("turn(0, " + any + ")", x.turn(0, any), BAD);
        }
    }

    private static void rowsAreTurned() {
        Check.says("TURNINGS: that row is turned so that its (t % 4)-th is in front, the next ones right, back, left.");
        FourCubes x = Check.heap(123456);
        // Top 4 stands 0 1 2 3: each time the row goes round, its first comes behind its last.
        int[][] due = {{0, 1, 2, 3}, {1, 2, 3, 0}, {2, 3, 0, 1}, {3, 0, 1, 2}};
        for (int quarter = 0; quarter < 4; quarter++) {
            for (int side = 0; side < 4; side++) {
                Check.due("shows(0, " + (16 + quarter) + ", " + side + ")", x.shows(0, 16 + quarter, side), due[quarter][side]);
            }
        }
        int[] first = {5, 1, 4, 3, 0, 2};
        int[] last = {3, 2, 1, 0, 5, 4};
        for (int what = 0; what < 6; what++) {
            Check.due("the first turning shows " + what, x.shows(0, 0, what), first[what]);
            Check.due("the last turning shows " + what, x.shows(0, 23, what), last[what]);
        }
    }

    private static void showsWhat() {
        Check.says("shows: by a TURNING: 0 to 3 on SIDES, 4 on top, 5 below. BAD.");
        FourCubes x = Check.heap(111111, 123457);
        int[] due = {BAD, 0, 1, 2, 3, 4, 6, BAD};
        for (int what = -1; what <= 6; what++) {
            Check.due("shows(1, 16, " + what + ")", x.shows(1, 16, what), due[what + 1]);
        }
        Check.due("turning -1", x.shows(1, -1, 0), BAD);
        Check.due("turning 24", x.shows(1, 24, 0), BAD);
        Check.due("cube -1", x.shows(-1, 0, 0), BAD);
        Check.due("cube 2", x.shows(2, 0, 0), BAD);
        for (int any : new int[] {MIN, MAX}) {
            Check.due("cube " + any, x.shows(any, 0, 0), BAD);
            Check.due("turning " + any, x.shows(0, any, 0), BAD);
            Check.due("what " + any, x.shows(0, 0, any), BAD);
        }
        Check.due("its own turning is as it was", x.of(1, 6), 16);
    }

    private static void howMany() {
        Check.says("count: 0 CUBES, 1 THE BOX (bits), 2 bytes on THE TAPE, 3 changes that may be UNDONE, 4 BODIES, 5 bodies that ran. BAD.");
        FourCubes x = Check.boxed(130, EIGHT);
        Twins.feed(x, "abc");
        for (int k = 0; k < 4; k++) {
            x.paint(0, k + 1);
        }
        x.undo();
        for (int k = 0; k < 6; k++) {
            x.body(5);
        }
        x.act(0, 3, 0);
        int[] due = {BAD, 8, 130, 3, 3, 6, 10, BAD, BAD};
        for (int what = -1; what <= 7; what++) {
            Check.due("count(" + what + ")", x.count(what), due[what + 1]);
        }
        Check.due("the least int", x.count(MIN), BAD);
        Check.due("the greatest int", x.count(MAX), BAD);
    }
}
