/** Promises 11 to 18: judged, ways, near, build, mend, open, swap, rings. */
public final class TowerTest {
    private static final int BAD = -1, NOT = -2, STATE = -5;
    private static final int MIN = Integer.MIN_VALUE, MAX = Integer.MAX_VALUE;

    public static void main(String[] args) {
        judge();
        ways();
        held();
        near();
        build();
        mend();
        firstMend();
        open();
        openByHand();
        swap();
        swapStates();
        rings();
        parted();
        nothingIsChanged();
        Check.finish("TowerTest");
    }

    private static void judge() {
        FourCubes x = Check.heap(123411, 234122, 341233, 412344);
        Check.due("no box", x.judge(), NOT);
        x.box(15);
        Check.due("all unlike", x.judge(), NOT);
        x.paint(32, 0);
        Check.due("side 2, places 2 and 3", x.judge(), 223);
        x.paint(12, 2);
        Check.due("side 2, places 0 and 1 come first", x.judge(), 201);
        x.paint(33, 3);
        Check.due("a later side does not matter", x.judge(), 201);
        x.paint(30, 0);
        Check.due("an earlier side does", x.judge(), 3);
        x.box(14);
        Check.due("places, not numbers", x.judge(), 212);
        x.turn(2, 17);
        Check.due("by the turnings that they have", x.judge(), 112);
        x.box(8);
        Check.due("one alone", x.judge(), NOT);
    }

    private static void ways() {
        FourCubes x = Check.heap(111111, 222222, 333333, 444444, 111111);
        Check.due("none: one way", x.ways(0, -1), 1);
        Check.due("none: no place", x.ways(0, 0), BAD);
        x.box(1);
        Check.due("one: the lowest by six", x.ways(0, -1), 6);
        x.box(15);
        Check.due("four", x.ways(0, -1), 6 * 24 * 24 * 24);
        Check.due("the first", x.ways(0, 3), 0);
        x.box(23);
        Check.due("two alike: none", x.ways(0, -1), 0);
        Check.due("two alike: no first", x.ways(0, 0), NOT);
        Check.due("two alike: no first", x.ways(0, 3), NOT);
        int[] noK = {-2, 4, MIN, MAX};
        for (int k : noK) {
            Check.due("ways(0, " + k + ")", x.ways(0, k), BAD);
        }
        int[] noHeld = {-1, 32, 63, MIN, MAX};
        for (int held : noHeld) {
            Check.due("ways(" + held + ", -1)", x.ways(held, -1), BAD);
        }
        x.box(6);
        Check.due("k by the tower", x.ways(0, 2), BAD);
        Check.due("k by the tower", x.ways(0, 1), 0);
    }

    private static void held() {
        FourCubes x = Check.heap(111111, 222222, 333333);
        x.box(6);
        x.turn(0, 3);
        x.turn(1, 7);
        x.turn(2, 22);
        Check.due("the lowest held", x.ways(2, -1), 24);
        Check.due("the lowest held keeps its own", x.ways(2, 0), 7);
        Check.due("the highest held", x.ways(4, -1), 6);
        Check.due("the highest held keeps its own", x.ways(4, 1), 22);
        Check.due("both", x.ways(6, -1), 1);
        Check.due("one that is not in the box", x.ways(1, -1), 144);
        Check.due("all", x.ways(7, 0), 7);
    }

    private static void near() {
        FourCubes x = Check.heap(111111, 111111, 111111, 111111, 777777);
        Check.due("none", x.near(0), 0);
        x.box(1);
        Check.due("one", x.near(0), 0);
        x.box(3);
        Check.due("two alike", x.near(0), 4);
        x.box(15);
        Check.due("four alike", x.near(0), 24);
        x.box(23);
        Check.due("one is worn", x.near(0), 12);
        x.paint(0, 1);
        Check.due("a face that is unlike two others", x.near(0), 10);
        x.turn(0, 0);
        Check.due("held with it on top", x.near(1), 12);
        Check.due("another one held", x.near(16), 10);
        int[] noHeld = {-1, 32, MIN, MAX};
        for (int held : noHeld) {
            Check.due("near(" + held + ")", x.near(held), BAD);
        }
    }

    private static void build() {
        FourCubes x = Check.heap(111111, 222222, 112222, 777777);
        Check.due("none", x.build(0, 0), STATE);
        Check.due("none, looks", x.build(23, 1), STATE);
        int[][] wrong = {{-1, 0}, {24, 0}, {0, -1}, {0, 2}, {MIN, 0}, {0, MAX}};
        for (int[] w : wrong) {
            Check.due("build(" + w[0] + ", " + w[1] + ")", x.build(w[0], w[1]), BAD);
        }
        x.box(1);
        Check.due("one", x.build(23, 0), NOT);
        Check.due("one, looks", x.build(23, 1), 0);
        x.box(3);
        Check.due("two", x.build(5, 0), NOT);
        Check.due("two, looks", x.build(5, 1), 1);
        x.box(7);
        Check.due("stuck at the third", x.build(5, 0), 2);
        Check.due("stuck at the third, looks", x.build(5, 1), 25);
        x.box(12);
        Check.due("a worn one goes", x.build(0, 1), 1);
        x.box(14);
        Check.due("stuck at the second", x.build(0, 0), 1);
        Check.due("stuck at the second, looks", x.build(0, 1), 24);
        greedy();
    }

    /** The builder takes the least that goes, though a later one would have gone on. */
    private static void greedy() {
        FourCubes x = Check.heap(121234, 343411);
        x.box(3);
        Check.due("held ones do not matter", x.turn(1, 5), 16);
        Check.due("looks until one goes", x.build(16, 1), looksByHand(x, 16));
        for (int t = 0; t < 24; t++) {
            Check.due("looks from " + t, x.build(t, 1), looksByHand(x, t));
        }
    }

    private static int looksByHand(FourCubes x, int lowest) {
        for (int t = 0; t < 24; t++) {
            boolean goes = true;
            for (int side = 0; side < 4; side++) {
                goes &= x.shows(0, lowest, side) != x.shows(1, t, side);
            }
            if (goes) {
                return t + 1;
            }
        }
        return 24;
    }

    private static void mend() {
        FourCubes x = Check.heap(111111, 111111, 222222);
        Check.due("none", x.mend(0), 0);
        Check.due("none, the first", x.mend(3), NOT);
        x.box(2);
        Check.due("one alone: five colours a face", x.mend(0), 30);
        Check.due("cube", x.mend(1), 1);
        Check.due("face", x.mend(2), 0);
        Check.due("colour", x.mend(3), 1);
        x.box(3);
        Check.due("no face is enough", x.mend(0), 0);
        Check.due("no first", x.mend(1), NOT);
        x.box(6);
        Check.due("all but to 0 of the other stand", x.mend(0), 60);
        x.paint(10, 6);
        Check.due("a worn face has six", x.mend(0), 61);
        Check.due("colour 0 is unlike WORN", x.mend(3), 0);
        int[] wrong = {-1, 4, MIN, MAX};
        for (int what : wrong) {
            Check.due("mend(" + what + ")", x.mend(what), BAD);
        }
    }

    /** Faces 2 and 3 of cube 1 are as all of cube 2: two of three lines are shown, so one is in the way. */
    private static void firstMend() {
        int[] colours = {111111, 132255, 222222};
        FourCubes x = Check.boxed(6, colours);
        Check.due("no way", x.ways(0, -1), 0);
        Check.due("many", x.mend(0), mendsByHand(6, colours));
        Check.due("cube", x.mend(1), 1);
        Check.due("face", x.mend(2), 2);
        Check.due("colour", x.mend(3), 0);
        colours[1] = 222455;
        x = Check.boxed(6, colours);
        Check.due("by hand: line 0 is past mending", firstByHand(6, colours), 110);
        Check.due("cube", x.mend(1), 1);
        Check.due("face", x.mend(2), 1);
        Check.due("many", x.mend(0), mendsByHand(6, colours));
        colours[1] = 242425;
        Check.due("colour", Check.boxed(6, colours).mend(3), firstByHand(6, colours) % 10);
    }

    private static int mendsByHand(int box, int... colours) {
        int many = 0;
        for (int k = 0; k < 100 * colours.length; k++) {
            many += goesPainted(k, box, colours) ? 1 : 0;
        }
        return many;
    }

    private static int firstByHand(int box, int... colours) {
        for (int k = 0; k < 100 * colours.length; k++) {
            if (goesPainted(k, box, colours)) {
                return k;
            }
        }
        return NOT;
    }

    /** Whether there is a way after a paint (100 times the cube, 10 times the face, and the colour) that changes something. */
    private static boolean goesPainted(int paint, int box, int... colours) {
        if (paint / 10 % 10 > 5 || paint % 10 > 5 || (box >> paint / 100 & 1) == 0) {
            return false;
        }
        FourCubes x = Check.boxed(box, colours);
        return x.paint(paint / 10, paint % 10) != paint % 10 && x.ways(0, -1) > 0;
    }

    private static void openByHand() {
        int[] colours = {111111, 227211, 171177, 777777};
        FourCubes x = Check.boxed(6, colours);
        int[] worn = {12, 21, 24, 25};
        for (int cf : worn) {
            int bits = 0;
            for (int colour = 0; colour < 6; colour++) {
                bits |= goesPainted(10 * cf + colour, 6, colours) ? 1 << colour : 0;
            }
            Check.due("open(" + cf + ")", x.open(cf), bits);
        }
        Check.due("not worn", x.open(20), STATE);
        Check.due("not in the box", x.open(31), STATE);
        FourCubes y = Check.heap(111111, 222222, 723233);
        y.box(6);
        Check.due("right and left lie hidden, the worn one is shown: all but 1", y.open(20), 61);
        FourCubes z = Check.heap(111111, 222222, 111111, 323273);
        z.box(10);
        Check.due("likewise on top", z.open(34), 61);
    }

    private static void open() {
        FourCubes x = Check.heap(711111, 222222, 777777);
        x.box(3);
        Check.due("hidden or shown", x.open(0), 63);
        x.paint(1, 1);
        x.paint(3, 1);
        x.paint(4, 2);
        x.paint(5, 1);
        Check.due("by now no way at all", x.ways(0, -1), 0);
        Check.due("so none", x.open(0), 0);
        x.paint(4, 1);
        x.paint(2, 2);
        x.paint(1, 2);
        x.paint(3, 2);
        Check.due("top and bottom lie hidden, the worn one is shown: all but 1", x.open(0), 61);
        x.paint(4, 0);
        x.paint(5, 2);
        x.paint(2, 1);
        Check.due("the worn one lies hidden", x.open(0), 63);
        x.paint(4, 1);
        Check.due("two lines have a 1: no way", x.open(0), 0);
        Check.due("not worn", x.open(1), STATE);
        Check.due("not in the box", x.open(20), STATE);
        int[] wrong = {-1, 6, 9, 16, 30, 100, MIN, MAX};
        for (int cf : wrong) {
            Check.due("open(" + cf + ")", x.open(cf), BAD);
        }
        Check.due("still worn", x.of(0, 0), 6);
    }

    private static void swap() {
        FourCubes x = Check.heap(111111, 111111, 222222, 222222);
        x.box(3);
        Check.due("mine", x.swap(0), 0);
        Check.due("theirs", x.swap(1), 2);
        x.box(5);
        Check.due("box 0 2: 0 for 1 goes", x.swap(0), 0);
        Check.due("box 0 2: 0 for 1 goes", x.swap(1), 1);
        x.box(10);
        Check.due("box 1 3: 1 for 0", x.swap(0), 1);
        Check.due("box 1 3: 1 for 0", x.swap(1), 0);
        x.paint(0, 0);
        FourCubes y = Check.heap(111111, 111111, 111111, 222222);
        y.box(3);
        Check.due("one of the two is always wrong", y.swap(0), NOT);
        Check.due("one of the two is always wrong", y.swap(1), NOT);
        int[] wrong = {-1, 2, MIN, MAX};
        for (int what : wrong) {
            Check.due("swap(" + what + ")", y.swap(what), BAD);
        }
    }

    private static void swapStates() {
        FourCubes x = Check.heap(111111, 222222, 333333, 444444);
        Check.due("an empty box", x.swap(0), NOT);
        x.box(15);
        Check.due("no others", x.swap(0), NOT);
        x.cube(555555);
        Check.due("one other", x.swap(1), 4);
        x.box(0);
        Check.due("five others", x.swap(0), STATE);
        Check.due("five others, but wrong", x.swap(2), BAD);
        x.box(1);
        Check.due("four others", x.swap(0), 0);
        Check.due("four others", x.swap(1), 1);
        Check.due("places by numbers anew", lawOfPlaces(), 3);
    }

    /** The law holds only if the lower colour is the lesser: the order in both boxes is by numbers. */
    private static int lawOfPlaces() {
        FourCubes x = Check.heap(222222, 444444, 333333, 555555);
        x.box(3);
        Check.law(x, "a<b");
        Check.due("as they are", x.ways(0, -1), 144);
        Check.due("0 for 2 has 4 under 3", x.swap(0), 0);
        return x.swap(1);
    }

    private static void rings() {
        FourCubes x = Check.heap(112233, 777777, 121212, 222211);
        Check.due("none", x.rings(0), STATE);
        Check.due("none, parted", x.rings(1), STATE);
        x.box(1);
        Check.due("one: no line is 0 and 0", x.rings(0), 0);
        x.box(2);
        Check.due("worn", x.rings(0), 0);
        x.box(4);
        Check.due("lines 00 11 01: one", x.rings(0), 1);
        Check.due("lines 00 11 01: none parted", x.rings(1), 0);
        x.box(12);
        Check.due("00 with 11 twice, 11 with 00", x.rings(0), 3);
        Check.due("00/11 with 11/00: two", x.rings(1), 2);
        int[] wrong = {-1, 2, MIN, MAX};
        for (int what : wrong) {
            Check.due("rings(" + what + ")", x.rings(what), BAD);
        }
    }

    private static void parted() {
        FourCubes x = Check.heap(111111);
        x.box(1);
        Check.due("three lines", x.rings(0), 3);
        Check.due("three pairs", x.rings(1), 3);
        FourCubes y = Check.heap(112211, 112211);
        y.box(3);
        Check.due("lines 01 01 00 of both", y.rings(0), 4);
        Check.due("0 0 with 1 1, 0 1 with 1 0", y.rings(1), 2);
    }

    private static void nothingIsChanged() {
        FourCubes x = Check.heap(123412, 341227, 421314, 134224, 112233);
        x.box(15);
        x.turn(2, 9);
        x.mend(0);
        x.open(15);
        x.swap(0);
        x.near(0);
        x.build(3, 0);
        x.ways(0, 2);
        int[] colours = {123412, 341227, 421314, 134224, 112233};
        for (int cube = 0; cube < colours.length; cube++) {
            int seen = 0;
            for (int face = 0; face < 6; face++) {
                seen = 10 * seen + x.of(cube, face) + 1;
            }
            Check.due("colours of " + cube, seen, colours[cube]);
            Check.due("turning of " + cube, x.of(cube, 6), cube == 2 ? 9 : 16);
        }
        Check.due("the box", x.count(1), 15);
        Check.due("changes", x.count(3), 0);
    }
}
