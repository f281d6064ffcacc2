/** Promises 1 to 6, 9, 10 and 35: a new object, cubes, faces, the box, turnings, how many. */
public final class CubesTest {
    private static final int BAD = -1, FULL = -3;
    private static final int MIN = Integer.MIN_VALUE, MAX = Integer.MAX_VALUE;

    public static void main(String[] args) {
        newObject();
        cubes();
        paint();
        of();
        box();
        turn();
        showsAsTheDocumentSays();
        showsWrong();
        counts();
        Check.finish("CubesTest");
    }

    private static void newObject() {
        FourCubes x = new FourCubes();
        for (int what = 0; what <= 5; what++) {
            Check.due("new: count(" + what + ")", x.count(what), 0);
        }
        Check.due("new: judge", x.judge(), -2);
        Check.due("new: ways", x.ways(0, -1), 1);
        Check.due("new: of", x.of(0, 0), BAD);
        for (int shelf = 0; shelf < 6; shelf++) {
            Check.due("new: taken", x.taken(shelf, 0), -11);
        }
        Check.due("BAD", FourCubes.BAD, -1);
        Check.due("NOT", FourCubes.NOT, -2);
        Check.due("FULL", FourCubes.FULL, -3);
        Check.due("STATE", FourCubes.STATE, -5);
        Check.due("VOID", FourCubes.VOID, -2000000000);
    }

    private static void cubes() {
        FourCubes x = new FourCubes();
        int[] wrong = {0, 1, -1, -123456, 11111, 1111111, 111110, 111118, 111119, 101111, 181111, 811111, 1234567, MIN, MAX};
        for (int colours : wrong) {
            Check.due("cube(" + colours + ")", x.cube(colours), BAD);
        }
        Check.due("no cube came", x.count(0), 0);
        for (int k = 0; k < 8; k++) {
            Check.due("cube " + k, x.cube(123456 + k % 2), k);
        }
        Check.due("the ninth", x.cube(123456), FULL);
        Check.due("a ninth that is wrong", x.cube(123458), BAD);
        Check.due("count(0)", x.count(0), 8);
        for (int face = 0; face < 6; face++) {
            Check.due("of(0, " + face + ")", x.of(0, face), face);
        }
        Check.due("the worn one", x.of(7, 5), 6);
    }

    private static void paint() {
        FourCubes x = Check.heap(123456, 111111);
        Check.due("paint(13, 6)", x.paint(13, 6), 0);
        Check.due("paint(13, 2)", x.paint(13, 2), 6);
        Check.due("of(1, 3)", x.of(1, 3), 2);
        Check.due("of(1, 2)", x.of(1, 2), 0);
        Check.due("of(0, 3)", x.of(0, 3), 3);
        int[] noFace = {-1, -10, 6, 7, 9, 16, 19, 20, 25, 100, 110, MIN, MAX};
        for (int cf : noFace) {
            Check.due("paint(" + cf + ", 0)", x.paint(cf, 0), BAD);
        }
        int[] noColour = {-1, 7, MIN, MAX};
        for (int colour : noColour) {
            Check.due("paint(0, " + colour + ")", x.paint(0, colour), BAD);
        }
        Check.due("changes", x.count(3), 2);
    }

    private static void of() {
        FourCubes x = Check.heap(612345, 777321);
        Check.due("line 0", x.of(0, 10), 15);
        Check.due("line 1", x.of(0, 11), 2);
        Check.due("line 2", x.of(0, 12), 34);
        Check.due("worn line", x.of(1, 10), 66);
        Check.due("half worn line", x.of(1, 11), 26);
        Check.due("turning", x.of(1, 6), 16);
        int[] wrong = {-1, 7, 8, 9, 13, MIN, MAX};
        for (int what : wrong) {
            Check.due("of(0, " + what + ")", x.of(0, what), BAD);
        }
        int[] noCube = {-1, 2, 8, MIN, MAX};
        for (int cube : noCube) {
            Check.due("of(" + cube + ", 0)", x.of(cube, 0), BAD);
        }
    }

    private static void box() {
        FourCubes x = Check.heap(123456, 123456, 123456, 123456, 123456);
        Check.due("box(15)", x.box(15), 0);
        Check.due("five", x.box(31), BAD);
        Check.due("not there", x.box(32), BAD);
        Check.due("not there and there", x.box(33), BAD);
        Check.due("below", x.box(-1), BAD);
        Check.due("least", x.box(MIN), BAD);
        Check.due("most", x.box(MAX), BAD);
        Check.due("unchanged", x.count(1), 15);
        Check.due("box(30)", x.box(30), 15);
        Check.due("box(0)", x.box(0), 30);
        Check.due("again", x.box(16), 0);
        for (int k = 0; k < 3; k++) {
            x.cube(111111);
        }
        Check.due("the last cube", x.box(128), 16);
        Check.due("past the last cube", x.box(256), BAD);
    }

    private static void turn() {
        FourCubes x = Check.heap(123456, 654321);
        Check.due("turn(1, 23)", x.turn(1, 23), 16);
        Check.due("turn(1, 0)", x.turn(1, 0), 23);
        Check.due("of(1, 6)", x.of(1, 6), 0);
        Check.due("of(0, 6)", x.of(0, 6), 16);
        int[][] wrong = {{-1, 0}, {2, 0}, {0, -1}, {0, 24}, {MIN, 0}, {MAX, 0}, {0, MIN}, {0, MAX}};
        for (int[] w : wrong) {
            Check.due("turn(" + w[0] + ", " + w[1] + ")", x.turn(w[0], w[1]), BAD);
        }
        Check.due("unchanged", x.of(1, 6), 0);
    }

    /** The six rows of the document, turned as it says. */
    private static void showsAsTheDocumentSays() {
        String[] around = {"5143", "0524", "4153", "0425", "0123", "2103"};
        String below = "230154";
        FourCubes x = Check.heap(123456);
        for (int t = 0; t < 24; t++) {
            String row = around[t / 4];
            for (int side = 0; side < 4; side++) {
                Check.due("shows(0, " + t + ", " + side + ")", x.shows(0, t, side), row.charAt((t % 4 + side) % 4) - '0');
            }
            Check.due("top of " + t, x.shows(0, t, 4), t / 4);
            Check.due("below " + t, x.shows(0, t, 5), below.charAt(t / 4) - '0');
        }
    }

    private static void showsWrong() {
        FourCubes x = Check.heap(123456);
        int[][] wrong = {{-1, 0, 0}, {1, 0, 0}, {0, -1, 0}, {0, 24, 0}, {0, 0, -1}, {0, 0, 6}, {MIN, MIN, MIN}, {MAX, MAX, MAX}};
        for (int[] w : wrong) {
            Check.due("shows(" + w[0] + ", " + w[1] + ", " + w[2] + ")", x.shows(w[0], w[1], w[2]), BAD);
        }
    }

    private static void counts() {
        FourCubes x = Check.heap(123456, 123456, 123456);
        x.box(5);
        x.feed(1);
        x.feed(2);
        x.paint(0, 3);
        x.body(0);
        x.body(7);
        x.act(1, 0, 0);
        Check.due("cubes", x.count(0), 3);
        Check.due("the box", x.count(1), 5);
        Check.due("the tape", x.count(2), 2);
        Check.due("changes", x.count(3), 1);
        Check.due("bodies", x.count(4), 2);
        Check.due("bodies that ran", x.count(5), 3);
        int[] wrong = {-1, 6, MIN, MAX};
        for (int what : wrong) {
            Check.due("count(" + what + ")", x.count(what), BAD);
        }
    }
}
