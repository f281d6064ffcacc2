/** Counts answers that are not as due, and ends the test with exit code 1 if there was one. */
final class Check {
    private static int asked = 0;
    private static int wrong = 0;

    private Check() {
    }

    static void due(String call, long got, long want) {
        asked++;
        if (got != want) {
            wrong++;
            System.out.println(call + " answered " + got + ", due is " + want);
        }
    }

    static void yes(String what, boolean holds) {
        due(what, holds ? 1 : 0, 1);
    }

    static boolean allRight() {
        return wrong == 0;
    }

    static void finish(String name) {
        System.out.println(name + ": " + asked + " answers, " + wrong + " not as due");
        if (wrong != 0 || asked == 0) {
            System.exit(1);
        }
    }

    /** Feeds a text and makes it THE LAW. */
    static int law(FourCubes x, String text) {
        for (int k = 0; k < text.length(); k++) {
            due("feed of byte " + k + " of " + text, x.feed(text.charAt(k)), k + 1);
        }
        return x.law();
    }

    /** An object with these cubes. */
    static FourCubes heap(int... colours) {
        FourCubes x = new FourCubes();
        for (int k = 0; k < colours.length; k++) {
            due("cube(" + colours[k] + ")", x.cube(colours[k]), k);
        }
        return x;
    }
}
