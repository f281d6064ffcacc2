/** Boundary cases of promises 11 to 18, and of their terms: a sentence a method. */
public final class TowerEdgesTest {
    private static final int BAD = -1, NOT = -2, STATE = -5;
    private static final int MIN = Integer.MIN_VALUE, MAX = Integer.MAX_VALUE;

    /** Faces 0, 4, 2, 5 go round as colours 0, 1, 2, 3, and only turning 12 has 0, 1, 2 in front, right, behind. */
    private static final int RING_OF_FOUR = 153524;
    /** A law by which only turning 23 of the cube 123456 MAY be above. */
    private static final String ONLY_LAST = "s=0?b=3;s=1?b=2;s=2?b=1;b=0";

    public static void main(String[] args) {
        theFirstThatMayNot();
        itIsRight();
        lowestTurnings();
        heldKeepTheirs();
        heldBits();
        theFirstWay();
        theKth();
        nearest();
        aToldTurning();
        stuck();
        looks();
        boxIsEmpty();
        mendsUnlikeWhatItHas();
        theFirstMend();
        noMend();
        openBits();
        notWornOrNotInTheBox();
        theFirstExchange();
        bothHaveAWay();
        moreThanFourOthers();
        ringsOfN();
        noOtherColour();
        Check.finish("TowerEdgesTest");
    }

    private static FourCubes ruled(String law, int... colours) {
        return Check.ruled(law, (1 << colours.length) - 1, colours);
    }

    private static void theFirstThatMayNot() {
        Check.says("JUDGED: the first SIDE on which two MAY not be so, of these the first lower, then the first higher: 100 SIDE, 10 lower, and higher.");
        for (int code = 0; code < 64; code++) {
            int side = code / 16;
            int low = code / 4 % 4;
            int high = code % 4;
            FourCubes x = ruled("!(s=" + side + "&i=" + low + "&j=" + high + ")", 123456, 234561, 345612, 456123);
            Check.due("side " + side + ", " + low + " and " + high, x.judge(), low < high ? 100 * side + 10 * low + high : NOT);
        }
        Check.due("the side comes first", ruled("!(s=1&i=0|s=0&i=2)", 123456, 123456, 123456, 123456).judge(), 23);
        Check.due("then the lower", ruled("!(s=2&(i=1&j=2|i=0&j=3))", 123456, 123456, 123456, 123456).judge(), 203);
        Check.due("then the higher", ruled("!(s=3&i=1)", 123456, 123456, 123456, 123456).judge(), 312);
    }

    private static void itIsRight() {
        Check.says("JUDGED: NOT: it is RIGHT.");
        Check.due("none", new FourCubes().judge(), NOT);
        Check.due("none in the box", ruled("0").judge(), NOT);
        Check.due("one, of which no two", ruled("0", 123456).judge(), NOT);
        Check.due("two", ruled("0", 123456, 123456).judge(), 1);
        Check.due("four", ruled("1", 111111, 111111, 111111, 111111).judge(), NOT);
    }

    private static void lowestTurnings() {
        Check.says("WAYS: of the lowest only those with t % 4 = 0 (so a tower turned as a whole counts once).");
        Check.due("one alone", ruled("1", 123456).ways(0, -1), 6);
        // The least and the greatest of the six: with 5 in front turning 0, with 2 in front turning 20.
        FourCubes first = ruled("s>0|a=5", 123456, 111111);
        Check.due("5 in front", first.ways(0, -1), 24);
        Check.due("turning 0", first.ways(0, 0), 0);
        FourCubes last = ruled("s>0|a=2", 123456, 111111);
        Check.due("2 in front", last.ways(0, -1), 24);
        Check.due("turning 20", last.ways(0, 0), 20);
        // Face 1 comes to the front in turnings 1, 9, 17 and 21 alone.
        FourCubes none = ruled("s>0|a=1", 123456, 111111);
        Check.due("1 in front", none.ways(0, -1), 0);
        Check.due("1 in front", none.ways(0, 0), NOT);
        Check.due("1 in front of one higher", ruled("s>0|b=1", 111111, 123456).ways(0, -1), 24);
        Check.due("all four", ruled("1", 123456, 123456, 123456, 123456).ways(0, -1), 6 * 24 * 24 * 24);
    }

    private static void heldKeepTheirs() {
        Check.says("WAYS: HELD CUBES (bits) keep the TURNING that they have (the lowest, too).");
        FourCubes x = ruled("s>0|a=1", 123456, 111111);
        int[] front = {1, 9, 17, 21};
        for (int t = 0; t < 24; t++) {
            x.turn(0, t);
            boolean goes = t == front[0] || t == front[1] || t == front[2] || t == front[3];
            Check.due("the lowest held in " + t, x.ways(1, -1), goes ? 24 : 0);
            Check.due("its turning in the first", x.ways(1, 0), goes ? t : NOT);
            Check.due("near, the lowest held in " + t, x.near(1), goes ? 0 : 1);
        }
        x.turn(0, 21);
        x.turn(1, 23);
        Check.due("both held", x.ways(3, -1), 1);
        Check.due("both held, the higher's", x.ways(3, 1), 23);
        Check.due("the higher held: the lowest is free of what it has", x.ways(2, -1), 0);
        Check.due("none held", x.ways(0, -1), 0);
    }

    private static void heldBits() {
        Check.says("ways: HELD (bits of CUBES that there are, in THE BOX or not). near: HELD likewise.");
        for (int n = 0; n <= 8; n++) {
            FourCubes x = new FourCubes();
            for (int k = 0; k < n; k++) {
                x.cube(123456);
            }
            Check.due("all of " + n, x.ways((1 << n) - 1, -1), 1);
            Check.due("all of " + n, x.near((1 << n) - 1), 0);
            Check.due("one more than " + n, x.ways(1 << n, -1), BAD);
            Check.due("one more than " + n, x.near(1 << n), BAD);
            Check.due("one more and all", x.ways((2 << n) - 1, -1), BAD);
            for (int held : new int[] {-1, MIN, MAX, 1 << 30}) {
                Check.due("ways(" + held + ", -1)", x.ways(held, -1), BAD);
                Check.due("near(" + held + ")", x.near(held), BAD);
            }
        }
        FourCubes x = Check.ruled("1", 3, 123456, 123456, 123456, 123456, 123456, 123456, 123456, 123456);
        Check.due("those not in the box", x.ways(0xFC, -1), 144);
        Check.due("all", x.ways(0xFF, -1), 1);
    }

    private static void theFirstWay() {
        Check.says("WAYS: the first (by rows of TURNINGS from below up).");
        FourCubes x = ruled("s>0|a=5&b=2|a=0&b=5", 123456, 123456);
        Check.due("one below with four above, three with four", x.ways(0, -1), 16);
        Check.due("0 below comes first", x.ways(0, 0), 0);
        Check.due("though its least above is 6", x.ways(0, 1), 6);
        FourCubes last = ruled("s=0?a=2&b=3;s=1?b=2;s=2?b=1;b=0", 123456, 123456);
        Check.due("one alone", last.ways(0, -1), 1);
        Check.due("the last below", last.ways(0, 0), 20);
        Check.due("the last above", last.ways(0, 1), 23);
        FourCubes most = ruled(ONLY_LAST, 123456, 123456, 123456, 123456);
        // A middle one is a for those above, which the law does not ask.
        Check.due("all above in the last", most.ways(0, -1), 6);
        int[] due = {0, 23, 23, 23};
        for (int k = 0; k < 4; k++) {
            Check.due("the first, " + k, most.ways(0, k), due[k]);
        }
    }

    private static void theKth() {
        Check.says("ways: how many (k -1), the TURNING of the k-th of THE TOWER in the first. BAD (none such); NOT (k 0 on): there is none.");
        int[] many = {1, 6, 6 * 24, 6 * 24 * 24, 6 * 24 * 24 * 24};
        for (int n = 0; n <= 4; n++) {
            int[] colours = {111111, 222222, 333333, 444444};
            FourCubes x = Check.boxed((1 << n) - 1, colours);
            FourCubes none = Check.ruled("0", (1 << n) - 1, colours);
            Check.due("how many of " + n, x.ways(0, -1), many[n]);
            Check.due("how many of " + n + ", law 0", none.ways(0, -1), n < 2 ? many[n] : 0);
            for (int k = 0; k < n; k++) {
                Check.due("the first of " + n + ", " + k, x.ways(0, k), 0);
                Check.due("the first of " + n + ", " + k + ", law 0", none.ways(0, k), n < 2 ? 0 : NOT);
            }
            for (int k : new int[] {-2, n, n + 1, MIN, MAX}) {
                Check.due("ways(0, " + k + ") of " + n, x.ways(0, k), BAD);
                Check.due("ways(0, " + k + ") of " + n + ", law 0", none.ways(0, k), BAD);
            }
        }
    }

    private static void nearest() {
        Check.says("NEAR: the least number of pairs (two CUBES, a SIDE) that MAY not be so, over all TURNINGS.");
        int[] colours = {123456, 123456, 123456, 123456};
        int[] most = {0, 0, 4, 12, 24};
        for (int n = 0; n <= 4; n++) {
            Check.due("law 0, " + n, Check.ruled("0", (1 << n) - 1, colours).near(0), most[n]);
            Check.due("law 1, " + n, Check.ruled("1", (1 << n) - 1, colours).near(0), 0);
        }
        Check.due("one pair, one side", ruled("!(s=3&i=2&j=3)", colours).near(0), 1);
        Check.due("lowest as above: 1 never in front", ruled("s>0|a=1", 123456, 111111).near(0), 1);
        FourCubes x = ruled(ONLY_LAST, 123456, 123456);
        x.turn(1, 22);
        Check.due("a HELD one with no side as the law has it", x.near(2), 4);
        Check.due("not held", x.near(0), 0);
        x.turn(1, 23);
        Check.due("held where it goes", x.near(2), 0);
        nearestWherever();
        nearestOfFewer();
    }

    private static void nearestWherever() {
        Check.due("by the first of the lowest alone", ruled("s>0|a=5", 123456, 111111).near(0), 0);
        Check.due("by one between", ruled("s>0|a=4", 123456, 111111).near(0), 0);
        Check.due("by the last of the lowest alone", ruled("s>0|a=2", 123456, 111111).near(0), 0);
        Check.due("by the first of the higher alone", ruled("s=0?b=5;s=1?b=1;s=2?b=4;b=3", 111111, 123456).near(0), 0);
        // The lowest goes in turning 4 at first, the two above it in turning 0 alone.
        String law = "i=0?s>0|a=0;s=0?a=5&b=5;s=1?a=1&b=1;s=2?a=4&b=4;a=3&b=3";
        Check.due("by the first of the higher ones, but not of the lowest", ruled(law, 123456, 123456, 123456).near(0), 0);
    }

    /** What was found of four is no matter to fewer. */
    private static void nearestOfFewer() {
        FourCubes x = ruled("0", 111111, 111111, 111111, 111111);
        int[] due = {24, 12, 4, 0, 0, 4, 12, 24};
        int[] boxes = {15, 7, 3, 1, 0, 12, 14, 15};
        for (int k = 0; k < boxes.length; k++) {
            x.box(boxes[k]);
            Check.due("near(0) of box " + boxes[k], x.near(0), due[k]);
        }
        FourCubes y = ruled("j>1?0;s>0|a=2", 123456, 111111, 111111, 111111);
        Check.due("the lowest two go, no other", y.near(0), 20);
        y.box(3);
        Check.due("the lowest two alone, by the last of the lowest", y.near(0), 0);
    }

    private static void aToldTurning() {
        Check.says("BUILD from a told TURNING of the lowest (HELD ones do not matter).");
        FourCubes x = ruled("s>0|a=1", 123456, 111111);
        for (int t = -1; t <= 24; t++) {
            boolean there = t >= 0 && t < 24;
            boolean goes = t == 1 || t == 9 || t == 17 || t == 21;
            Check.due("build(" + t + ", 0)", x.build(t, 0), !there ? BAD : goes ? NOT : 1);
            Check.due("build(" + t + ", 1)", x.build(t, 1), !there ? BAD : goes ? 1 : 24);
        }
        x.turn(0, 1);
        x.turn(1, 23);
        Check.due("not from the one that it has", x.build(0, 0), 1);
        Check.due("nor up to the one that it has", x.build(1, 1), 1);
        Check.due("the least int", x.build(MIN, 0), BAD);
        Check.due("the greatest int", x.build(MAX, 0), BAD);
    }

    private static void stuck() {
        Check.says("BUILD: CUBE upon CUBE takes the least TURNING that MAY be with all below; STUCK: the first place with none. NOT: it is built.");
        String[] laws = {"0", "j<2", "j<3", "1", "!(i=0&j=2)", "!(i=1&j=3)", "!(i=0&j=3)", "!(s=3&i=2&j=3)"};
        int[] places = {1, 2, 3, NOT, 2, 3, 3, 3};
        for (int k = 0; k < laws.length; k++) {
            FourCubes x = ruled(laws[k], 111111, 111111, 111111, 111111);
            Check.due("stuck by " + laws[k], x.build(0, 0), places[k]);
        }
        for (int n = 1; n <= 4; n++) {
            FourCubes x = Check.ruled("0", (1 << n) - 1, 111111, 111111, 111111, 111111);
            Check.due("law 0, " + n, x.build(23, 0), n == 1 ? NOT : 1);
        }
        FourCubes x = ruled("1", 111111);
        Check.due("what -1", x.build(0, -1), BAD);
        Check.due("what 2", x.build(0, 2), BAD);
        Check.due("what, the least int", x.build(0, MIN), BAD);
        Check.due("what, the greatest int", x.build(0, MAX), BAD);
    }

    private static void looks() {
        Check.says("LOOKS: how many TURNINGS were tried above the lowest (those that MAY not be, too).");
        String[] laws = {"0", "j<2", "j<3", "1"};
        int[] due = {24, 1 + 24, 1 + 1 + 24, 3};
        for (int k = 0; k < laws.length; k++) {
            FourCubes x = ruled(laws[k], 111111, 111111, 111111, 111111);
            Check.due("looks by " + laws[k], x.build(0, 1), due[k]);
        }
        FourCubes last = ruled(ONLY_LAST, 123456, 123456, 123456, 123456);
        Check.due("the last of each goes", last.build(0, 0), NOT);
        Check.due("the last of each goes", last.build(0, 1), 72);
        FourCubes lastThenNone = ruled("j=1&(s=0&b=3|s=1&b=2|s=2&b=1|s=3&b=0)", 123456, 123456, 123456);
        Check.due("the last, then none", lastThenNone.build(0, 0), 2);
        Check.due("the last, then none", lastThenNone.build(0, 1), 24 + 24);
        Check.due("one alone: none", ruled("0", 111111).build(0, 1), 0);
    }

    private static void boxIsEmpty() {
        Check.says("build: STATE: THE BOX is empty. rings: STATE: THE BOX is empty.");
        FourCubes x = Check.heap(111111);
        Check.due("build(0, 0)", x.build(0, 0), STATE);
        Check.due("build(23, 1)", x.build(23, 1), STATE);
        Check.due("rings(0)", x.rings(0), STATE);
        Check.due("rings(1)", x.rings(1), STATE);
        x.box(1);
        Check.due("build(0, 0)", x.build(0, 0), NOT);
        Check.due("rings(0)", x.rings(0), 3);
        x.box(0);
        Check.due("build(0, 0)", x.build(0, 0), STATE);
        Check.due("rings(0)", x.rings(0), STATE);
    }

    private static void mendsUnlikeWhatItHas() {
        Check.says("MEND: of all FACES of CUBES of THE BOX and COLOURS (unlike what it has) those by which, painted so, there is a WAY: how many.");
        for (int n = 0; n <= 4; n++) {
            int bits = (1 << n) - 1;
            Check.due("five each, " + n, Check.ruled("1", bits, 111111, 222222, 333333, 666666).mend(0), 30 * n);
            Check.due("a worn one has six, " + n, Check.ruled("1", bits, 777777, 777777, 777777, 777777).mend(0), 36 * n);
        }
        Check.due("those not in the box are none", Check.ruled("1", 2, 111111, 111111, 777777).mend(0), 30);
    }

    private static void theFirstMend() {
        Check.says("MEND: the first by CUBES, FACES, COLOURS: the CUBE (1), FACE (2), COLOUR (3). BAD.");
        int[] eight = {111111, 111111, 111111, 111111, 222222, 111111, 111111, RING_OF_FOUR};
        mendIs(Check.ruled("1", 0xF0, eight), 120, 400);
        mendIs(Check.ruled("1", 0x0F, eight), 120, 1);
        mendIs(Check.ruled("j<3|s=3&b=5|s<3&b=s", 0xF0, eight), 1, 755);
        mendIs(Check.ruled("j<3|s=3&b=0|s<3&b=s", 0xF0, eight), 1, 750);
        mendIs(Check.ruled("s>0|b=5", 3, 111111, 123455), 6, 105);
        // Faces 0, 2, 4 and 5 come to the front in the six turnings of the lowest.
        mendIs(Check.ruled("s>0|a=5", 3, 123455, 111111), 4, 5);
    }

    private static void mendIs(FourCubes x, int many, int first) {
        Check.due("how many", x.mend(0), many);
        Check.due("cube", x.mend(1), first / 100);
        Check.due("face", x.mend(2), first / 10 % 10);
        Check.due("colour", x.mend(3), first % 10);
        for (int what : new int[] {-1, 4, MIN, MAX}) {
            Check.due("mend(" + what + ")", x.mend(what), BAD);
        }
    }

    private static void noMend() {
        Check.says("mend: NOT (1 on): there is none.");
        FourCubes[] none = {new FourCubes(), Check.ruled("1", 0, 111111), ruled("0", 111111, 111111), Check.boxed(3, 111111, 111111)};
        for (FourCubes x : none) {
            Check.due("mend(0)", x.mend(0), 0);
            for (int what = 1; what <= 3; what++) {
                Check.due("mend(" + what + ")", x.mend(what), NOT);
            }
        }
    }

    private static void openBits() {
        Check.says("OPEN: of a WORN FACE of a CUBE of THE BOX: COLOURS (bits) with which there is a WAY.");
        int worn = RING_OF_FOUR + 3;
        for (int colour = 0; colour < 6; colour++) {
            FourCubes x = ruled("s=3&b=" + colour + "|s<3&b=s", 111111, worn);
            Check.due("only " + colour, x.open(15), 1 << colour);
        }
        Check.due("none", ruled("0", 111111, worn).open(15), 0);
        Check.due("all", ruled("1", 111111, worn).open(15), 63);
        Check.due("one alone", ruled("0", worn).open(5), 63);
        FourCubes two = ruled("s=3&b=5|s<3&b=s", 111111, 777777);
        Check.due("the other worn ones stay so", two.open(10), 63);
        FourCubes last = Check.ruled("1", 0x80, 111111, 111111, 111111, 111111, 111111, 111111, 111111, 777777);
        Check.due("the last face of the last cube", last.open(75), 63);
        for (int cf : new int[] {-1, 76, 79, 80, 86, MIN, MAX}) {
            Check.due("open(" + cf + ")", last.open(cf), BAD);
        }
    }

    private static void notWornOrNotInTheBox() {
        Check.says("open: STATE: it is not WORN, or the CUBE is not in THE BOX.");
        FourCubes x = Check.boxed(2, 777777, 677777);
        Check.due("worn, not in the box", x.open(0), STATE);
        Check.due("in the box, 5", x.open(10), STATE);
        Check.due("in the box, worn", x.open(11), 63);
        x.box(1);
        Check.due("now in the box", x.open(0), 63);
        Check.due("no more in the box", x.open(11), STATE);
        Check.due("neither", x.open(10), STATE);
    }

    private static void theFirstExchange() {
        Check.says("SWAP: of CUBES in THE BOX, then of those that are not, the first two by whose exchange .. THE BOX (its places by numbers anew) has a WAY.");
        int[] solid = {111111, 222222, 333333, 222222, 444444, 555555, 666666, 555555};
        FourCubes last = Check.ruled("a<b", 0x0F, solid);
        Check.due("only 3 and 7", last.swap(0), 3);
        Check.due("only 3 and 7", last.swap(1), 7);
        FourCubes first = Check.ruled("1", 0x0F, solid);
        Check.due("all go: 0", first.swap(0), 0);
        Check.due("and 4", first.swap(1), 4);
        FourCubes above = Check.ruled("1", 0xF0, solid);
        Check.due("all go: 4", above.swap(0), 4);
        Check.due("and 0", above.swap(1), 0);
        // 0 for 2: 2 does not take the place of 0, but comes above 1.
        FourCubes anew = Check.ruled("a<b", 3, 333333, 222222, 444444, 555555);
        Check.due("0 goes for 2", anew.swap(0), 0);
        Check.due("0 goes for 2", anew.swap(1), 2);
        Check.due("its places: 0 then 1", Check.ruled("i=0&j=1", 5, 111111, 111111, 111111, 111111).swap(1), 1);
        for (int what : new int[] {-1, 2, MIN, MAX}) {
            Check.due("swap(" + what + ")", first.swap(what), BAD);
        }
    }

    private static void bothHaveAWay() {
        Check.says("SWAP: .. has a WAY and so have the others together (.. none: yes); NOT.");
        swapIs(Check.boxed(1, 111111, 222222, 222222, 222222), NOT, "the others would not");
        swapIs(Check.boxed(7, 111111, 111111, 111111, 222222), NOT, "the box would not");
        swapIs(Check.boxed(3, 111111, 111111, 222222), 0, "the one other has one alone");
        swapIs(Check.boxed(7, 111111, 222222, 333333), NOT, "there is no other");
        swapIs(Check.boxed(0, 111111, 222222, 333333), NOT, "there is none in the box");
        swapIs(new FourCubes(), NOT, "there is none at all");
    }

    private static void swapIs(FourCubes x, int mine, String why) {
        Check.due(why, x.swap(0), mine);
        Check.yes(why, mine == NOT ? x.swap(1) == NOT : x.swap(1) >= 0);
    }

    private static void moreThanFourOthers() {
        Check.says("swap: STATE: more than 4 are not in THE BOX.");
        int[] solid = {111111, 111111, 111111, 111111, 111111, 111111, 111111, 111111};
        for (int bits : new int[] {0x0F, 0xF0, 0xAA}) {
            Check.due("four of eight", Check.ruled("1", bits, solid).swap(0), Integer.numberOfTrailingZeros(bits));
        }
        for (int bits : new int[] {0x07, 0xE0, 0x80, 0}) {
            Check.due("fewer of eight", Check.ruled("1", bits, solid).swap(0), STATE);
            Check.due("fewer of eight", Check.ruled("1", bits, solid).swap(1), STATE);
        }
        for (int n = 0; n <= 8; n++) {
            FourCubes x = new FourCubes();
            for (int k = 0; k < n; k++) {
                x.cube(111111);
            }
            Check.due("none of " + n, x.swap(0), n <= 4 ? NOT : STATE);
            if (n > 0) {
                x.box(1 << n - 1);
                Check.due("one of " + n, x.swap(0), n == 1 ? NOT : n == 2 ? 1 : n > 5 ? STATE : NOT);
            }
        }
        Check.due("one of five, four others", Check.ruled("1", 1, 111111, 111111, 111111, 111111, 111111).swap(1), 1);
        Check.due("one of six, five others", Check.ruled("1", 1, 111111, 111111, 111111, 111111, 111111, 111111).swap(1), STATE);
    }

    private static void ringsOfN() {
        Check.says("RINGS of THE BOX of n CUBES: each of COLOURS 0 .. n less 1 is at just two ends (one LINE may be both). PARTED: share no LINE of a CUBE.");
        int[] rings = {0, 3, 9, 27, 81};
        int[] parted = {0, 3, 18, 108, 648};
        for (int n = 1; n <= 4; n++) {
            FourCubes x = Check.boxed((1 << n) - 1 << 4, 777777, 777777, 777777, 777777, 111111, 222222, 333333, 444444);
            Check.due("rings of " + n, x.rings(0), rings[n]);
            Check.due("parted of " + n, x.rings(1), parted[n]);
            for (int what : new int[] {-1, 2, MIN, MAX}) {
                Check.due("rings(" + what + ")", x.rings(what), BAD);
            }
        }
        FourCubes x = Check.boxed(3, 112233, 112244);
        Check.due("0 and 1 of each, one line of each, no other", x.rings(0), 4);
        Check.due("both lines exchanged", x.rings(1), 2);
    }

    private static void noOtherColour() {
        Check.says("RINGS: .. just two ends .., no other COLOUR.");
        Check.due("1 instead of 0", Check.boxed(1, 222222).rings(0), 0);
        Check.due("0 and 1 at one end each", Check.boxed(1, 112211).rings(0), 1);
        Check.due("WORN", Check.boxed(1, 777777).rings(0), 0);
        Check.due("WORN at one end", Check.boxed(1, 117777).rings(0), 0);
        Check.due("0 at four ends", Check.boxed(3, 111111, 111111).rings(0), 0);
        Check.due("2 instead of 1", Check.boxed(3, 111111, 333333).rings(0), 0);
        Check.due("0 at three ends", Check.boxed(3, 111111, 112222).rings(0), 3);
        Check.due("4 instead of 3", Check.boxed(15, 111111, 222222, 333333, 555555).rings(0), 0);
        Check.due("none: no pairs", Check.boxed(15, 111111, 222222, 333333, 555555).rings(1), 0);
    }
}
