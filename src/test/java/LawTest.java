/** Promises 7 and 8: THE TAPE, THE LAW, its FAULT, and what it says of two colours. */
public final class LawTest {
    private static final int BAD = -1, FULL = -3, NOT = -2;

    public static void main(String[] args) {
        feed();
        wholeTexts();
        faults();
        depth();
        faultKeepsLaw();
        values();
        longest();
        names();
        lines();
        wornIsNotAsked();
        Check.finish("LawTest");
    }

    private static void feed() {
        FourCubes x = new FourCubes();
        int[] wrong = {-1, 256, Integer.MIN_VALUE, Integer.MAX_VALUE};
        for (int letter : wrong) {
            Check.due("feed(" + letter + ")", x.feed(letter), BAD);
        }
        for (int k = 1; k <= 120; k++) {
            Check.due("feed " + k, x.feed(k % 2 == 1 ? 'a' : '+'), k);
        }
        Check.due("feed 121", x.feed('a'), FULL);
        Check.due("feed 121, no byte", x.feed(256), BAD);
        Check.due("count(2)", x.count(2), 120);
        Check.due("ends too early", x.law(), -220);
        Check.due("count(2) then", x.count(2), 0);
        Check.due("feed(0)", x.feed(0), 1);
        Check.due("feed(255)", x.feed(255), 2);
        Check.due("law", x.law(), -100);
        Check.due("law of an empty tape", x.law(), -100);
    }

    private static void wholeTexts() {
        String[] texts = {"a", "0", "0000", "9999", "a?b", "a;b", "a?b;i;j?s", "!a", "-a", "--a", "a--b", "a-!b",
            "(a)", "((((((a))))))", "!!!!!!a", "------a", "(!(!(!a)))", "a|b|s", "a&b&s", "a<b|a>b&a=b", "(a<b)<(a>b)",
            "a+b-s*i/j%7", "1+2*3", "!(a)*-(b)", "12*34", "(a|b)?(a&b)", "!a+!!a+!!!a+!!!!!!b", "(a)+((((((b))))))"};
        FourCubes x = new FourCubes();
        for (String text : texts) {
            Check.due("law " + text, Check.law(x, text), 1);
        }
    }

    private static void faults() {
        String[] texts = {"", "?", ";", "|", "+", "*", ")", " ", "q", "A", "a ", "a?", "a;", "a?;", "a?b?c", "a?b;", "(a?b)",
            "(a;b)", "a<b<c", "a=b>s", "(a<b<s)", "a b", "ab", "1a", "a1", "12345", "1+99999", "(a", "(a))", "()", "a+",
            "a+*b", "a!b", "a(b)", "(a)(b)", "a||b", "a&&b", "a==b", "!", "-", "a-", "a<", "a?b&", "1234(", "a.b", "k", "(a<b=s)"};
        int[] faults = {0, 0, 0, 0, 0, 0, 0, 0, 0, 0, 1, 2, 2, 2, 3, 4, 2,
            2, 3, 3, 4, 1, 1, 1, 1, 4, 6, 2, 3, 1, 2,
            2, 1, 1, 3, 2, 2, 2, 1, 1, 2, 2, 4, 4, 1, 0, 4};
        FourCubes x = new FourCubes();
        Check.due("as many", texts.length, faults.length);
        for (int k = 0; k < texts.length; k++) {
            Check.due("law " + texts[k], Check.law(x, texts[k]), -100 - faults[k]);
            Check.due("the tape is empty", x.count(2), 0);
        }
    }

    private static void depth() {
        FourCubes x = new FourCubes();
        Check.due("seven (", Check.law(x, "(((((((a)))))))"), -106);
        Check.due("seven !", Check.law(x, "!!!!!!!a"), -106);
        Check.due("seven -", Check.law(x, "-------a"), -106);
        Check.due("mixed", Check.law(x, "(!-(!-(a))))"), -106);
        Check.due("six, then one inside", Check.law(x, "((((((-a))))))"), -106);
        Check.due("- between is none", Check.law(x, "((((((a-b))))))"), 1);
        Check.due("-- between", Check.law(x, "((((((a--b))))))"), -108);
        Check.due("closed ones do not count", Check.law(x, "!!!!!!a+!!!!!!b-------a"), 1);
        Check.due("closed ones, one more", Check.law(x, "!!!!!!a--------a"), -114);
        Check.due("! closes behind (..)", Check.law(x, "(((!(a)+!(b)+!((a)))))"), 1);
    }

    private static void faultKeepsLaw() {
        FourCubes x = Check.heap(111111, 111111);
        x.box(3);
        Check.due("without a text", x.judge(), 1);
        Check.due("a law", Check.law(x, "a=b"), 1);
        Check.due("by it", x.judge(), NOT);
        Check.due("a fault", Check.law(x, "a<"), -102);
        Check.due("still by it", x.judge(), NOT);
        Check.due("an empty tape", x.law(), -100);
        Check.due("still by it", x.judge(), NOT);
    }

    /** Two cubes that show 3 below and 5 above on every side. */
    private static FourCubes threeAndFive() {
        FourCubes x = Check.heap(444444, 666666);
        x.box(3);
        return x;
    }

    private static void mayBe(FourCubes x, String text, boolean may) {
        Check.due("law " + text, Check.law(x, text), 1);
        Check.due("judge by " + text, x.judge() == NOT ? 1 : 0, may ? 1 : 0);
    }

    private static void values() {
        String[] not0 = {"a=3", "b=5", "a<b", "b>a", "a|0", "0|b", "a&b", "!0", "!!7=1", "-a=0-3", "a+b=8", "a-b=0-2", "a*b=15",
            "b/a=1", "b%a=2", "(0-5)/3=0-1", "(0-5)%3=0-2", "-5/3=-1", "7/0=0", "7%0=0", "0=7/0", "1+2*3=7", "2*3+1=7", "(1+2)*3=9",
            "8-4-2=2", "8/4/2=1", "7%5*2=4", "-2*3=-6", "1|0&0", "(1|0)&1", "5|0=0", "(7|0)=1", "(7&9)=1", "-!0=0-1", "!-1=0",
            "9999*9999*9999%9999=0-2714", "2-3", "0007=7", "1=1&2=2", "3-1*2=1",
            "(0<1)+(2>1)+(3=3)=3", "!a+1=1", "!(a-3)=1", "1-1|1", "!0*5=5"};
        for (String text : not0) {
            mayBe(threeAndFive(), text, true);
        }
        String[] zero = {"a=b", "a>b", "b<a", "0", "a-3", "!a", "0|0", "0&1", "1&0", "7/0", "7%0", "b-5", "1>1", "1<1", "0*9", "a/4",
            "9999*0", "(1|0)&0", "!1|!2"};
        for (String text : zero) {
            mayBe(threeAndFive(), text, false);
        }
        // The least int: by -1 it stays as it is, and nothing is left over.
        String least = "(4096*4096*128)";
        mayBe(threeAndFive(), least + "<0", true);
        mayBe(threeAndFive(), least + "/-1=" + least, true);
        mayBe(threeAndFive(), least + "%-1=0", true);
        mayBe(threeAndFive(), "-" + least + "=" + least, true);
    }

    /** A text of 120 bytes, each of which counts. */
    private static void longest() {
        StringBuilder text = new StringBuilder("!0");
        for (int k = 0; k < 59; k++) {
            text.append("+0");
        }
        mayBe(threeAndFive(), text.toString(), true);
        text.setLength(118);
        mayBe(threeAndFive(), text + "-1", false);
        StringBuilder lines = new StringBuilder("-0?1");
        for (int k = 0; k < 29; k++) {
            lines.append(";0?1");
        }
        mayBe(threeAndFive(), lines.toString(), false);
        lines.setLength(116);
        mayBe(threeAndFive(), lines + ";1?1", true);
        StringBuilder shortest = new StringBuilder("0");
        for (int k = 0; k < 59; k++) {
            shortest.append(";0");
        }
        mayBe(threeAndFive(), shortest.toString(), false);
    }

    private static void names() {
        FourCubes x = Check.heap(111111, 111111, 111111, 111111);
        x.box(15);
        Check.due("law", Check.law(x, "!(s=2&i=1&j=3)"), 1);
        Check.due("side 2, 1 and 3", x.judge(), 213);
        Check.due("law", Check.law(x, "!(s=3&i=0&j=1)"), 1);
        Check.due("side 3, 0 and 1", x.judge(), 301);
        Check.due("law", Check.law(x, "i<j"), 1);
        Check.due("always", x.judge(), NOT);
        Check.due("law", Check.law(x, "j<3"), 1);
        Check.due("the highest", x.judge(), 3);
        FourCubes y = Check.heap(111111, 222222, 333333);
        y.box(6);
        Check.due("law", Check.law(y, "a=1&b=2&i=0&j=1"), 1);
        Check.due("places in the tower, not numbers", y.judge(), NOT);
    }

    private static void lines() {
        FourCubes x = threeAndFive();
        mayBe(x, "1;0", true);
        mayBe(x, "0;1", false);
        mayBe(x, "0?1;1", true);
        mayBe(x, "0?1", false);
        mayBe(x, "0?1;0?1", false);
        mayBe(x, "1?0;1", false);
        mayBe(x, "a=3?b=5;0", true);
        mayBe(x, "a=4?0;b=4?0;-7", true);
        mayBe(x, "a-5?a-3;1", false);
        mayBe(x, "0?1;0;1", false);
    }

    private static void wornIsNotAsked() {
        FourCubes x = Check.heap(777777, 111111);
        x.box(3);
        mayBe(x, "0", true);
        mayBe(x, "a<6", true);
        FourCubes y = Check.heap(111111, 777777);
        y.box(3);
        mayBe(y, "0", true);
    }
}
