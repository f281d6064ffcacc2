/** Counts answers that are not as due, and ends the test with exit code 1 if there was one. */
final class Check {
    private static int asked = 0;
    private static int wrong = 0;
    private static int sentences = 0;
    private static String saying = "";

    private Check() {
    }

    /** The document's sentence that the answers from here on are about. */
    static void says(String sentence) {
        sentences++;
        saying = sentence;
    }

    static void due(String call, long got, long want) {
        asked++;
        if (got != want) {
            wrong++;
            System.out.println(call + " answered " + got + ", due is " + want + (saying.isEmpty() ? "" : ": " + saying));
        }
    }

    static void yes(String what, boolean holds) {
        due(what, holds ? 1 : 0, 1);
    }

    static boolean allRight() {
        return wrong == 0;
    }

    static void finish(String name) {
        String of = sentences == 0 ? "" : " of " + sentences + " sentences";
        System.out.println(name + ": " + asked + " answers" + of + ", " + wrong + " not as due");
        if (wrong != 0 || asked == 0) {
            System.exit(1);
        }
    }

    /** Feeds a text and makes it THE LAW. */
    static int law(FourCubes x, String text) {
        for (int k = 0; k < text.length(); k++) {
            due("feed of byte " + k + " of " + text, x.feed(text.charAt(k)), k + 1);
        }
        return x.law();
    }

    /** An object with these cubes. */
    static FourCubes heap(int... colours) {
        FourCubes x = new FourCubes();
        for (int k = 0; k < colours.length; k++) {
            due("cube(" + colours[k] + ")", x.cube(colours[k]), k);
        }
        return x;
    }

    /** An object with these cubes, some of them (bits) in THE BOX. */
    static FourCubes boxed(int bits, int... colours) {
        FourCubes x = heap(colours);
        due("box(" + bits + ")", x.box(bits), 0);
        return x;
    }

    /** An object with these cubes in THE BOX, and THE LAW told. */
    static FourCubes ruled(String text, int bits, int... colours) {
        FourCubes x = boxed(bits, colours);
        due("law " + text, law(x, text), 1);
        return x;
    }
}
