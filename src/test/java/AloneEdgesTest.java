import java.math.BigInteger;

/** Boundary cases of promises 19 to 25, and of their terms: a sentence a method. */
public final class AloneEdgesTest {
    private static final int BAD = -1, NOT = -2, STATE = -5;
    private static final int MIN = Integer.MIN_VALUE, MAX = Integer.MAX_VALUE;
    private static final int ALL_TURNINGS = (1 << 24) - 1;
    private static final int FOUR_OF_24 = 4 * 24 * 24 * 24;
    private static final int[] OPPOSITE = {2, 3, 0, 1, 5, 4};

    public static void main(String[] args) {
        theOneAndTheOther();
        turnedElseInAGlass();
        wornIsAsAColour();
        manyOfN();
        threeColours();
        turningsAsBits();
        cubesAsBits();
        wornShowsAny();
        fewerThanFour();
        facesThatTouch();
        theFirstRow();
        theKthOfTheWall();
        oneCorner();
        greatWorn();
        greatColours();
        latestFirst();
        noOtherCameBehind();
        fortyAtMost();
        colourAsItIs();
        Check.finish("AloneEdgesTest");
    }

    private static FourCubes times(int n, int colours) {
        FourCubes x = new FourCubes();
        for (int k = 0; k < n; k++) {
            Check.due("cube " + k, x.cube(colours), k);
        }
        return x;
    }

    private static void theOneAndTheOther() {
        Check.says("alike: ab: 10 times the one and the other. BAD.");
        for (int n : new int[] {0, 1, 3, 8}) {
            FourCubes x = times(n, 123456);
            for (int ab = -22; ab <= 110; ab++) {
                boolean there = ab >= 0 && ab / 10 < n && ab % 10 < n;
                Check.due("alike(" + ab + ") of " + n, x.alike(ab), there ? 1 : BAD);
            }
            Check.due("the least int", x.alike(MIN), BAD);
            Check.due("the greatest int", x.alike(MAX), BAD);
        }
    }

    private static void turnedElseInAGlass() {
        Check.says("ALIKE: 1, if a TURNING of the one shows, on all six, what the other does; else 2, if one does of the one in a glass; else 0.");
        FourCubes x = Check.heap(123456, 143256, 113456, 123451, 111222, 112212);
        Check.due("in a glass", x.alike(1), 2);
        Check.due("the other way about", x.alike(10), 2);
        Check.due("one face is another", x.alike(3), 0);
        Check.due("two opposite are alike: turned and in a glass, so 1", times(2, 121345).alike(1), 1);
        Check.due("two side by side are alike: in a glass alone", Check.heap(112345, 132145).alike(1), 2);
        Check.due("three in a row, three at a corner", x.alike(45), 0);
        for (int t = 0; t < 24; t++) {
            FourCubes y = Check.heap(123456);
            y.cube(shownBy(y, t));
            Check.due("just turning " + t, y.alike(1), 1);
            Check.due("just turning " + t + ", the other way about", y.alike(10), 1);
            int right = y.of(1, 1);
            y.paint(11, y.of(1, 3));
            y.paint(13, right);
            Check.due("just turning " + t + " in a glass", y.alike(1), 2);
            Check.due("just turning " + t + " in a glass, the other way about", y.alike(10), 2);
        }
    }

    private static int shownBy(FourCubes x, int t) {
        int colours = 0;
        for (int what = 0; what < 6; what++) {
            colours = 10 * colours + x.shows(0, t, what) + 1;
        }
        return colours;
    }

    private static void wornIsAsAColour() {
        Check.says("ALIKE: (WORN is as a COLOUR.)");
        Check.due("one is worn", Check.heap(777777, 111111).alike(1), 0);
        Check.due("one face is worn", Check.heap(123457, 123456).alike(1), 0);
        Check.due("both are worn", times(2, 777777).alike(1), 1);
        Check.due("one worn face each", Check.heap(711111, 111117).alike(1), 1);
        Check.due("in a glass", Check.heap(123457, 143257).alike(1), 2);
    }

    private static void manyOfN() {
        Check.says("MANY: how many cubes of n COLOURS (1 .. 1000) there are: turned as one (what 0), those in a glass, too (1). BAD.");
        FourCubes x = new FourCubes();
        for (int n : new int[] {1, 2, 3, 6, 7, 100, 999, 1000}) {
            Check.due("many(" + n + ", 0)", x.many(n, 0), manyTurned(n));
            Check.due("many(" + n + ", 1)", x.many(n, 1), manyInAGlass(n));
        }
        for (int n : new int[] {0, 1001, -1, -1000, MIN, MAX}) {
            Check.due("many(" + n + ", 0)", x.many(n, 0), BAD);
            Check.due("many(" + n + ", 1)", x.many(n, 1), BAD);
        }
        for (int what : new int[] {-1, 2, MIN, MAX}) {
            Check.due("many(1, " + what + ")", x.many(1, what), BAD);
            Check.due("many(1000, " + what + ")", x.many(1000, what), BAD);
        }
    }

    /** Cubes with just k colours, times the choices of k colours out of n. */
    private static long chosen(int n, long... justK) {
        BigInteger sum = BigInteger.ZERO;
        BigInteger choices = BigInteger.ONE;
        for (int k = 1; k <= justK.length; k++) {
            choices = choices.multiply(BigInteger.valueOf(n - k + 1)).divide(BigInteger.valueOf(k));
            sum = sum.add(choices.multiply(BigInteger.valueOf(justK[k - 1])));
        }
        return sum.longValueExact();
    }

    private static long manyTurned(int n) {
        return chosen(n, 1, 8, 30, 68, 75, 30);
    }

    private static long manyInAGlass(int n) {
        return chosen(n, 1, 8, 29, 52, 45, 15);
    }

    private static void threeColours() {
        Check.says("SIGHT: three COLOURS seen at once (top, front, right; 100, 10, 1; 0 .. 5 each). BAD.");
        FourCubes x = Check.heap(123456, 777777);
        for (int from = -20; from <= 1020; from += 400) {
            // No more than 512 calls an object.
            FourCubes y = Check.heap(777777);
            for (int colours = from; colours < from + 400; colours++) {
                boolean may = colours >= 0 && colours / 100 < 6 && colours / 10 % 10 < 6 && colours % 10 < 6;
                Check.due("sight(" + colours + ", 0)", y.sight(colours, 0), may ? ALL_TURNINGS : BAD);
            }
        }
        for (int colours : new int[] {-1, 6, 60, 600, 556, 565, 655, 1000, MIN, MAX}) {
            Check.due("sight(" + colours + ", -1)", x.sight(colours, -1), BAD);
        }
        for (int cube : new int[] {-2, 2, 8, MIN, MAX}) {
            Check.due("sight(0, " + cube + ")", x.sight(0, cube), BAD);
        }
        Check.due("cube -1: all of them", x.sight(0, -1), 2);
        Check.due("the last cube", x.sight(0, 1), ALL_TURNINGS);
        Check.due("of none", new FourCubes().sight(0, -1), 0);
        Check.due("no cube 0", new FourCubes().sight(0, 0), BAD);
    }

    private static void turningsAsBits() {
        Check.says("SIGHT: TURNINGS of a CUBE (bits) in which it shows them.");
        FourCubes x = Check.heap(123456);
        for (int t = 0; t < 24; t++) {
            int seen = 100 * x.shows(0, t, 4) + 10 * x.shows(0, t, 0) + x.shows(0, t, 1);
            Check.due("just turning " + t, x.sight(seen, 0), 1 << t);
            int inGlass = 100 * x.shows(0, t, 4) + 10 * x.shows(0, t, 1) + x.shows(0, t, 0);
            Check.due("none: front and right exchanged in " + t, x.sight(inGlass, 0), 0);
        }
        Check.due("top 0, front 5, right 1: the first", x.sight(51, 0), 1);
        Check.due("top 5, front 3, right 2: the last", x.sight(532, 0), 1 << 23);
        Check.due("all", Check.heap(666666).sight(555, 0), ALL_TURNINGS);
        Check.due("none", Check.heap(666666).sight(554, 0), 0);
        x.turn(0, 3);
        Check.due("its own turning is not asked", x.sight(51, 0), 1);
    }

    private static void cubesAsBits() {
        Check.says("SIGHT: CUBES (bits) that have some such.");
        for (int at = 0; at < 8; at++) {
            FourCubes x = times(8, 222222);
            for (int face = 0; face < 6; face++) {
                x.paint(10 * at + face, face);
            }
            Check.due("just cube " + at, x.sight(401, -1), 1 << at);
        }
        Check.due("all eight", times(8, 111111).sight(0, -1), 255);
        Check.due("none of eight", times(8, 111111).sight(1, -1), 0);
        FourCubes x = Check.boxed(1, 222222, 111111);
        Check.due("in the box or not", x.sight(0, -1), 2);
    }

    private static void wornShowsAny() {
        Check.says("SIGHT: (WORN shows any).");
        FourCubes x = Check.heap(723456);
        // With 0 worn, each turning that shows it shows any colour there.
        for (int colour = 0; colour < 6; colour++) {
            Check.yes("on top: " + colour, (x.sight(100 * colour + 51, 0) & 1) == 1);
            Check.yes("in front: " + colour, (x.sight(401 + 10 * colour, 0) & 1 << 16) != 0);
            Check.yes("right: " + colour, (x.sight(430 + colour, 0) & 1 << 19) != 0);
        }
        Check.due("the others as they are", x.sight(401, 0), 1 << 16);
        Check.due("one worn face is not two", x.sight(441, 0), 1 << 16);
        Check.due("one worn face is not three", x.sight(444, 0), 0);
    }

    private static void fewerThanFour() {
        Check.says("WALL: four CUBES of THE BOX (fewer: STATE). wall: BAD; STATE.");
        for (int n = 0; n <= 4; n++) {
            FourCubes x = times(8, 777777);
            x.box((1 << n) - 1 << 4);
            for (int k = -2; k <= 4; k++) {
                int due = k < -1 || k > 3 ? BAD : n < 4 ? STATE : k < 0 ? 24 * 24 * 24 * 24 : 0;
                Check.due("wall(" + k + ") of " + n, x.wall(k), due);
            }
            Check.due("the least int", x.wall(MIN), BAD);
            Check.due("the greatest int", x.wall(MAX), BAD);
        }
    }

    private static void facesThatTouch() {
        Check.says("WALL: two on two: .. faces that touch are of one COLOUR (WORN with all): how many TURNINGS (all 24 of each).");
        for (int one = 0; one < 4; one++) {
            for (int other = one + 1; other < 4; other++) {
                boolean touch = one + other != 3;
                int[] colours = {777777, 777777, 777777, 777777};
                colours[one] = 111111;
                colours[other] = 222222;
                FourCubes x = Check.boxed(15, colours);
                Check.due("unlike at " + one + " and " + other, x.wall(-1), touch ? 0 : 6 * FOUR_OF_24);
                Check.due("unlike at " + one + " and " + other, x.wall(0), touch ? NOT : 0);
                colours[other] = 111111;
                Check.due("like at " + one + " and " + other, Check.boxed(15, colours).wall(-1), 6 * FOUR_OF_24);
            }
        }
        Check.due("THE LAW is not asked", Check.ruled("0", 15, 111111, 111111, 111111, 111111).wall(-1), 6 * FOUR_OF_24);
    }

    private static void theFirstRow() {
        Check.says("WALL: the least left below, the next right below, then left above, right above; .. the first row.");
        // One place has six colours, one that touches it 0 alone: so face 0 lies between. The least turning by
        // which it does: right in 7, left in 5, on top in 0, below in 8.
        int[][] due = {{0, 1, 7}, {1, 0, 5}, {2, 3, 7}, {3, 2, 5}, {0, 2, 0}, {2, 0, 8}, {1, 3, 0}, {3, 1, 8}};
        for (int[] d : due) {
            int[] colours = {777777, 777777, 777777, 777777};
            colours[d[0]] = 123456;
            colours[d[1]] = 111111;
            FourCubes x = Check.boxed(15, colours);
            Check.due(d[0] + " by " + d[1], x.wall(-1), FOUR_OF_24);
            for (int k = 0; k < 4; k++) {
                Check.due("the first row of " + d[0] + " by " + d[1] + ", " + k, x.wall(k), k == d[0] ? d[2] : 0);
            }
            x.turn(d[0], 23);
            Check.due("its own turning is not asked", x.wall(d[0]), d[2]);
        }
    }

    private static void theKthOfTheWall() {
        Check.says("wall: the TURNING of the k-th CUBE of THE BOX in the first. NOT (k 0 on): there is none.");
        FourCubes none = Check.boxed(15, 111111, 222222, 333333, 444444);
        Check.due("none", none.wall(-1), 0);
        for (int k = 0; k < 4; k++) {
            Check.due("no first, " + k, none.wall(k), NOT);
        }
        // Face 0 of cube 1 touches cube 3, so it stands in turning 7 with 1 on top; the least of cube 5 that has
        // 1 or a worn face below is 8.
        FourCubes x = Check.boxed(0xAA, 222222, 123456, 222222, 111111, 222222, 723456, 222222, 777777);
        Check.due("the cube 1", x.wall(0), 7);
        Check.due("the cube 3", x.wall(1), 0);
        Check.due("the cube 5", x.wall(2), 8);
        Check.due("the cube 7", x.wall(3), 0);
    }

    private static void oneCorner() {
        Check.says("GREAT: CUBES (bits) with three FACES of it .. at one corner.");
        for (int three = 0; three < 216; three++) {
            int a = three / 36;
            int b = three / 6 % 6;
            int c = three % 6;
            if (a < b && b < c) {
                FourCubes x = Check.heap(222222);
                x.paint(a, 0);
                x.paint(b, 0);
                x.paint(c, 0);
                boolean corner = OPPOSITE[a] != b && OPPOSITE[a] != c && OPPOSITE[b] != c;
                Check.due("faces " + a + ", " + b + ", " + c, x.great(0), corner ? 1 : 0);
                x.paint(b, 3);
                Check.due("two of them alone", x.great(0), 0);
                x.paint(b, 6);
                Check.due("two and a worn one", x.great(0), corner ? 1 : 0);
            }
        }
        Check.due("four, two and two opposite", Check.heap(111122).great(0), 0);
        Check.due("five", Check.heap(111112).great(0), 1);
    }

    private static void greatWorn() {
        Check.says("GREAT: .. (WORN ones, too).");
        FourCubes x = Check.heap(772272, 777777, 722222);
        for (int colour = 0; colour < 6; colour++) {
            int due = colour == 1 ? 7 : 3;
            Check.due("great(" + colour + ")", x.great(colour), due);
        }
    }

    private static void greatColours() {
        Check.says("great: GREAT, as bits. BAD.");
        FourCubes x = Check.heap(111111, 222222, 333333, 444444, 555555, 666666, 777777, 123456);
        for (int colour = -2; colour <= 8; colour++) {
            boolean there = colour >= 0 && colour < 6;
            Check.due("great(" + colour + ")", x.great(colour), there ? 1 << colour | 64 : BAD);
        }
        x.paint(71, 0);
        x.paint(74, 0);
        Check.due("the last cube", x.great(0), 1 + 64 + 128);
        Check.due("the least int", x.great(MIN), BAD);
        Check.due("the greatest int", x.great(MAX), BAD);
        Check.due("of none", new FourCubes().great(0), 0);
    }

    private static void latestFirst() {
        Check.says("CHANGES can be UNDONE, the latest first, and DONE AGAIN: how many may still be. STATE: none.");
        FourCubes x = Check.heap(111111, 111111);
        Check.due("none to undo", x.undo(), STATE);
        Check.due("none to redo", x.redo(), STATE);
        x.paint(0, 1);
        Check.due("none undone", x.redo(), STATE);
        x.paint(15, 2);
        x.paint(0, 3);
        Check.due("the third", x.undo(), 2);
        Check.due("it is", x.of(0, 0), 1);
        Check.due("the second", x.undo(), 1);
        Check.due("it is", x.of(1, 5), 0);
        Check.due("the first", x.undo(), 0);
        Check.due("it is", x.of(0, 0), 0);
        Check.due("no more", x.undo(), STATE);
        Check.due("the first again", x.redo(), 2);
        Check.due("it is", x.of(0, 0), 1);
        Check.due("the second again", x.redo(), 1);
        Check.due("it is", x.of(1, 5), 2);
        Check.due("the third again", x.redo(), 0);
        Check.due("it is", x.of(0, 0), 3);
        Check.due("no more", x.redo(), STATE);
        Check.due("three may be undone", x.count(3), 3);
    }

    private static void noOtherCameBehind() {
        Check.says("CHANGES: DONE AGAIN (as long as no other came behind).");
        FourCubes x = Check.heap(111111);
        x.paint(0, 1);
        x.paint(1, 2);
        x.undo();
        Check.due("another", x.paint(2, 3), 0);
        Check.due("gone", x.redo(), STATE);
        Check.due("the other is undone first", x.undo(), 1);
        Check.due("it is", x.of(0, 2), 0);
        Check.due("now it can be done again", x.redo(), 0);
        Check.due("it is", x.of(0, 2), 3);
        Check.due("the one that is gone is not", x.of(0, 1), 0);
        x.undo();
        x.undo();
        // What is no change of a face's colour does not come behind.
        x.turn(0, 3);
        x.cube(222222);
        x.box(1);
        x.feed('a');
        x.law();
        Check.due("both again", x.redo(), 1);
        Check.due("both again", x.redo(), 0);
    }

    private static void fortyAtMost() {
        Check.says("CHANGES: 40 at most are kept.");
        for (int n : new int[] {39, 40, 41, 80}) {
            FourCubes x = Check.heap(111111);
            for (int k = 1; k <= n; k++) {
                x.paint(k % 6, 1 + k % 5);
            }
            int kept = Math.min(n, 40);
            Check.due(n + " changes", x.count(3), kept);
            for (int k = n; k > n - kept; k--) {
                Check.due("colour of change " + k, x.of(0, k % 6), 1 + k % 5);
                Check.due("undo of " + k, x.undo(), k - n + kept - 1);
                int before = k - 6 < 1 ? 0 : 1 + (k - 6) % 5;
                Check.due("colour ahead of change " + k, x.of(0, k % 6), before);
            }
            Check.due("no more", x.undo(), STATE);
            for (int k = n - kept + 1; k <= n; k++) {
                Check.due("redo of " + k, x.redo(), n - k);
                Check.due("colour of change " + k, x.of(0, k % 6), 1 + k % 5);
            }
            Check.due("no more", x.redo(), STATE);
            Check.due("all may be undone", x.count(3), kept);
        }
        FourCubes x = Check.heap(111111);
        for (int k = 1; k <= 40; k++) {
            x.paint(k % 6, 1 + k % 5);
        }
        x.undo();
        x.paint(5, 6);
        Check.due("one undone, another: forty", x.count(3), 40);
        Check.due("none was forgotten", undoAll(x), 40);
        Check.due("so all is as at first", x.of(0, 1), 0);
    }

    private static int undoAll(FourCubes x) {
        int undone = 0;
        while (undone < 100 && x.undo() != STATE) {
            undone++;
        }
        return undone;
    }

    private static void colourAsItIs() {
        Check.says("CHANGES (COLOURS of FACES): one that is painted as it is does not change.");
        FourCubes x = Check.heap(117111);
        Check.due("0 on 0", x.paint(0, 0), 0);
        Check.due("WORN on WORN", x.paint(2, 6), 6);
        Check.due("no change", x.count(3), 0);
        Check.due("none to undo", x.undo(), STATE);
        x.paint(0, 1);
        x.undo();
        Check.due("as it is", x.paint(0, 0), 0);
        Check.due("nothing came behind", x.redo(), 0);
        Check.due("it is", x.of(0, 0), 1);
    }
}
