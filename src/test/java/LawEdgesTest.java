/** Boundary cases of promises 7 and 8, and of THE LAW in the terms: a sentence a method. */
public final class LawEdgesTest {
    private static final int BAD = -1, NOT = -2, FULL = -3;
    private static final int MIN = Integer.MIN_VALUE, MAX = Integer.MAX_VALUE;

    /** With what an operand begins; with what it begins if six are open; signs between two. */
    private static final String BEGIN = "absij0123456789(!-", DEEPEST = "absij0123456789", DIGITS = "0123456789";
    private static final String JOIN = "|&+-*/%", COMPARE = "<=>";
    /** 2 to the 31st, which wraps to the least int. */
    private static final String LEAST = "(4096*4096*128)";

    public static void main(String[] args) {
        aByte();
        atMost120();
        tapeIsEmptyThen();
        oneLineOrMore();
        oneToFourDigits();
        names();
        noBlanks();
        oneComparison();
        signsBetween();
        atMostSixOpen();
        endsTooEarly();
        intsThatWrap();
        towardZero();
        oneOrZero();
        allIsWorkedOut();
        whichLineCounts();
        notZero();
        withoutAText();
        wornMayBeWithAll();
        Check.finish("LawEdgesTest");
    }

    private static void aByte() {
        Check.says("feed: A byte (0 .. 255) comes to THE TAPE: how many it has. BAD.");
        FourCubes x = new FourCubes();
        Check.due("feed(-1)", x.feed(-1), BAD);
        Check.due("feed(0)", x.feed(0), 1);
        Check.due("feed(255)", x.feed(255), 2);
        Check.due("feed(256)", x.feed(256), BAD);
        Check.due("feed(MIN)", x.feed(MIN), BAD);
        Check.due("feed(MAX)", x.feed(MAX), BAD);
        Check.due("count(2)", x.count(2), 2);
    }

    private static void atMost120() {
        Check.says("THE TAPE (at most 120 bytes). feed: FULL (120).");
        FourCubes x = Check.boxed(3, 111111, 111111);
        for (int k = 1; k <= 119; k++) {
            Check.due("byte " + k, x.feed(k % 2 == 1 ? 'a' : '+'), k);
        }
        Check.due("byte 120", x.feed('?'), 120);
        Check.due("byte 121", x.feed('a'), FULL);
        Check.due("byte 121, again", x.feed('a'), FULL);
        Check.due("120 bytes", x.count(2), 120);
        Check.due("it ends behind the 120th", x.law(), -220);
        for (int k = 1; k <= 119; k++) {
            x.feed(k % 2 == 1 ? '0' : '+');
        }
        Check.due("119 whole ones and one that is wrong", x.feed(')'), 120);
        Check.due("the place of the last byte", x.law(), -219);
        Check.due("still without a text", x.judge(), 1);
        FourCubes y = Check.boxed(3, 111111, 111111);
        for (int k = 1; k <= 118; k++) {
            y.feed(k % 2 == 1 ? '0' : '+');
        }
        y.feed('-');
        Check.due("byte 120", y.feed('1'), 120);
        Check.due("a whole text of 120", y.law(), 1);
        Check.due("its last byte counts: -1", y.judge(), NOT);
        longestOnes();
    }

    /** One after another: each of the bytes is a sign of its own, and the last decides. */
    private static void longestOnes() {
        FourCubes x = Check.boxed(3, 111111, 111111);
        for (int last = 0; last < 3; last++) {
            Twins.feed(x, "-");
            for (int k = 0; k < 59; k++) {
                Twins.feed(x, "0+");
            }
            Check.due("byte 120", x.feed('0' + last), 120);
            Check.due("a whole text of 120", x.law(), 1);
            Check.due("by its last byte " + last, x.judge(), last == 0 ? 1 : NOT);
        }
    }

    private static void tapeIsEmptyThen() {
        Check.says("law: THE TAPE becomes THE LAW: 1; -100 less its FAULT; THE TAPE is empty then.");
        FourCubes x = Check.boxed(3, 111111, 111111);
        Check.due("a whole text", Check.law(x, "a=b"), 1);
        Check.due("empty", x.count(2), 0);
        Check.due("by it", x.judge(), NOT);
        Check.due("a fault", Check.law(x, "a=b)"), -103);
        Check.due("empty, too", x.count(2), 0);
        Check.due("the law is what it was", x.judge(), NOT);
        Check.due("an empty tape has its fault at 0", x.law(), -100);
        Check.due("the law is what it was", x.judge(), NOT);
        Check.due("fed from the first byte on", x.feed('0'), 1);
        Check.due("nothing is left of what was there", x.law(), 1);
        Check.due("by the new one", x.judge(), 1);
    }

    /** Behind this text, which is well so far, just these bytes go on. */
    private static void goesOnWith(String text, String... signs) {
        String all = String.join("", signs);
        for (char c = 0; c < 256; c++) {
            FourCubes x = new FourCubes();
            Twins.feed(x, text + c);
            int due = -100 - text.length();
            if (all.indexOf(c) >= 0) {
                boolean closed = (text + c).replaceAll("[^(]", "").length() == (text + c).replaceAll("[^)]", "").length();
                due = closed && (DEEPEST + ")").indexOf(c) >= 0 ? 1 : due - 1;
            }
            Check.due("byte " + (int) c + " behind " + text, x.law(), due);
        }
    }

    private static void oneLineOrMore() {
        Check.says("LINES, one or more, parted by ; . LINE: E, or E ? E.");
        goesOnWith("", BEGIN);
        goesOnWith("a", JOIN, COMPARE, "?;");
        goesOnWith("a;", BEGIN);
        goesOnWith("a?", BEGIN);
        goesOnWith("a?b", JOIN, COMPARE, ";");
        goesOnWith("a?b;", BEGIN);
        goesOnWith("a?b;s", JOIN, COMPARE, "?;");
        goesOnWith("a;b;s;i;j", JOIN, COMPARE, "?;");
        goesOnWith("(a", JOIN, COMPARE, ")");
        goesOnWith("a?(b", JOIN, COMPARE, ")");
        StringBuilder sixty = new StringBuilder("0?1");
        for (int k = 0; k < 58; k++) {
            sixty.append(";0");
        }
        Check.due("fifty-nine lines", sixty.length(), 119);
        FourCubes x = Check.ruled(sixty.toString(), 3, 111111, 222222);
        Check.due("the second counts", x.judge(), 1);
    }

    private static void oneToFourDigits() {
        Check.says("O = a number (1 to 4 digits).");
        goesOnWith("7", DIGITS, JOIN, COMPARE, "?;");
        goesOnWith("123", DIGITS, JOIN, COMPARE, "?;");
        goesOnWith("1234", JOIN, COMPARE, "?;");
        goesOnWith("0000", JOIN, COMPARE, "?;");
        goesOnWith("a+9999", JOIN, COMPARE, "?;");
        goesOnWith("(9999", JOIN, COMPARE, ")");
        goesOnWith("(12)", JOIN, COMPARE, "?;");
        may("0=0000", true);
        may("0009=9", true);
        may("9999+1=5000*2", true);
    }

    private static void names() {
        Check.says("NAMES: a, b .. s the SIDE, i, j which of the TOWER they are, from 0 up.");
        for (char c = 'A'; c <= 'z'; c++) {
            FourCubes x = new FourCubes();
            x.feed(c);
            Check.due("law of byte " + (int) c, x.law(), "absij".indexOf(c) >= 0 ? 1 : -100);
        }
        goesOnWith("s", JOIN, COMPARE, "?;");
        goesOnWith("i*j", JOIN, COMPARE, "?;");
        FourCubes x = Check.ruled("s>0-1&s<4&i>0-1&i<3&j>0&j<4&i<j", 0xF0, 111111, 111111, 111111, 111111, 111111, 111111, 111111, 111111);
        Check.due("within these bounds always", x.judge(), NOT);
        String[] last = {"!(s=3)", "!(i=2)", "!(j=3)", "!(s=0)", "!(i=0)", "!(j=1)"};
        int[] due = {301, 23, 3, 1, 1, 1};
        for (int k = 0; k < last.length; k++) {
            FourCubes y = Check.ruled(last[k], 0xF0, 111111, 111111, 111111, 111111, 111111, 111111, 111111, 111111);
            Check.due("judged by " + last[k], y.judge(), due[k]);
        }
    }

    private static void noBlanks() {
        Check.says("No blanks.");
        String[] texts = {" ", " a", "a ", "a +b", "a+ b", "( a)", "(a )", "! a", "1 2", "a? b", "a ;b", "a\t", "a\n", "a\r\n", "a;\n"};
        int[] faults = {0, 0, 1, 1, 2, 1, 2, 1, 1, 2, 1, 1, 1, 1, 2};
        for (int k = 0; k < texts.length; k++) {
            FourCubes x = new FourCubes();
            Check.due("law " + texts[k], Check.law(x, texts[k]), -100 - faults[k]);
        }
    }

    private static void oneComparison() {
        Check.says("B = S, or S < S, S = S, S > S.");
        goesOnWith("a<b", JOIN, "?;");
        goesOnWith("a=b", JOIN, "?;");
        goesOnWith("a>b", JOIN, "?;");
        goesOnWith("a=b+1", DIGITS, JOIN, "?;");
        goesOnWith("a<b*s", JOIN, "?;");
        goesOnWith("a<b&s", JOIN, COMPARE, "?;");
        goesOnWith("a<b|s", JOIN, COMPARE, "?;");
        goesOnWith("a<b?s", JOIN, COMPARE, ";");
        goesOnWith("a<b;s", JOIN, COMPARE, "?;");
        goesOnWith("a<(s", JOIN, COMPARE, ")");
        goesOnWith("(a<b", JOIN, ")");
        goesOnWith("(a<b)", JOIN, COMPARE, "?;");
        goesOnWith("a<(b=s)", JOIN, "?;");
    }

    private static void signsBetween() {
        Check.says("E = A { | A }. A = B { & B }. S = P { + P, - P }. P = O { * O, / O, % O }. O = .. ! O, - O, ( E ).");
        for (int k = 0; k < JOIN.length(); k++) {
            goesOnWith("a" + JOIN.charAt(k), BEGIN);
        }
        for (int k = 0; k < COMPARE.length(); k++) {
            goesOnWith("a" + COMPARE.charAt(k), BEGIN);
        }
        goesOnWith("!", BEGIN);
        goesOnWith("-", BEGIN);
        goesOnWith("(", BEGIN);
        goesOnWith("!a", JOIN, COMPARE, "?;");
        goesOnWith("-a", JOIN, COMPARE, "?;");
        goesOnWith("(a)", JOIN, COMPARE, "?;");
        goesOnWith("((a)", JOIN, COMPARE, ")");
        goesOnWith("a|b&s<i+j*1", DIGITS, JOIN, "?;");
    }

    private static void atMostSixOpen() {
        Check.says("At most 6 of ( ! - ahead of an O are open at once.");
        String[] five = {"(((((", "!!!!!", "-----", "(!-(!", "a+(((((", "a?!!!!!"};
        for (String text : five) {
            goesOnWith(text, BEGIN);
        }
        String[] six = {"((((((", "!!!!!!", "------", "(!-(!-", "-!(-!(", "a*((((((", "a?!!!!!!", "a;------", "a-------", "((((a+((", "((((((a+"};
        for (String text : six) {
            goesOnWith(text, DEEPEST);
        }
        goesOnWith("!!!!!!a+", BEGIN);
        goesOnWith("!!!!!!a+!!!!!", BEGIN);
        goesOnWith("((((((a)+", BEGIN);
        goesOnWith("((((((a)+(", DEEPEST);
        goesOnWith("((((((a))))))+(((((", BEGIN);
        goesOnWith("(((((!a+", BEGIN);
        goesOnWith("(((((!a+!", DEEPEST);
        goesOnWith("((((((a", JOIN, COMPARE, ")");
        goesOnWith("((((((a)))))", JOIN, COMPARE, ")");
        goesOnWith("((((((a))))))", JOIN, COMPARE, "?;");
    }

    private static void endsTooEarly() {
        Check.says("FAULT: .. the length, if it ends too early.");
        String[] texts = {"", "(", "!", "-", "a|", "a&", "a<", "a=", "a>", "a+", "a-", "a*", "a/", "a%", "a?", "a;", "a?b;", "(a", "((a)", "a?(b", "a<(b", "!(", "a+!"};
        for (String text : texts) {
            FourCubes x = new FourCubes();
            Check.due("law " + text, Check.law(x, text), -100 - text.length());
        }
    }

    /** By a text, whether 3 below and 5 above MAY be so. */
    private static void may(String text, boolean due) {
        FourCubes x = Check.ruled(text, 3, 444444, 666666);
        Check.due("judged by " + text, x.judge(), due ? NOT : 1);
    }

    private static void intsThatWrap() {
        Check.says("Ints that wrap.");
        may(LEAST + "<0", true);
        may(LEAST + "-1>0", true);
        may("(" + LEAST + "-1)+1=" + LEAST, true);
        may("(" + LEAST + "-1)+1<0", true);
        may("-" + LEAST + "=" + LEAST, true);
        may("0-" + LEAST + "=" + LEAST, true);
        may(LEAST + "+" + LEAST + "=0", true);
        may("4096*4096*256=0", true);
        may("4096*4096*256", false);
        // 9999 three times is 999700029999, less 232 times 2 to the 32nd: 3267617327, so 1027349969 below 0.
        may("9999*9999*9999<0", true);
        may("9999*9999*9999+1027*1000*1000+349*1000+969=0", true);
        may(LEAST + "<" + LEAST + "-1", true);
    }

    private static void towardZero() {
        Check.says("/ and % toward 0, by 0 they give 0.");
        String[] not0 = {"7/2=3", "-7/2=-3", "7/-2=-3", "-7/-2=3", "7%2=1", "-7%2=-1", "7%-2=1", "-7%-2=-1", "1/2=0", "-1/2=0", "0/5=0",
            "7/1=7", "7%1=0", "7/0=0", "7%0=0", "0/0=0", "0%0=0", "-7/0=0", "-7%0=0", "a/(b-5)=0", "a%(b-5)=0", "8/0+1=1",
            LEAST + "/-1=" + LEAST, LEAST + "%-1=0", LEAST + "/1=" + LEAST, LEAST + "/0=0", LEAST + "%0=0", LEAST + "/" + LEAST + "=1"};
        for (String text : not0) {
            may(text, true);
        }
        may("7/0", false);
        may("7%0", false);
        may("!(7/0)", true);
    }

    private static void oneOrZero() {
        Check.says("| & < = > ! give 1, 0.");
        String[] not0 = {"(7|0)=1", "(0|7)=1", "(7|9)=1", "(0|0)=0", "(-1|0)=1", "(7&9)=1", "(7&0)=0", "(0&7)=0", "(0&0)=0", "(-1&-1)=1",
            "(2&4)=1", "(3<5)=1", "(5<3)=0", "(5<5)=0", "(5>3)=1", "(3>5)=0", "(5>5)=0", "(5=5)=1", "(5=3)=0", "!0=1", "!1=0", "!7=0", "!-1=0",
            "(-1<0)=1", "(0>-1)=1", "!!9=1", "(1|1)+(1|1)=2"};
        for (String text : not0) {
            may(text, true);
        }
    }

    private static void allIsWorkedOut() {
        Check.says("All is worked out.");
        may("1|7/0", true);
        may("0&7%0", false);
        may("1|0&1/0", true);
        may("0?1/0;1", true);
        may("1?1;1/0", true);
    }

    private static void whichLineCounts() {
        Check.says("The first LINE without a first E, or whose first E is not 0, counts; none: 0.");
        may("1", true);
        may("0", false);
        may("1;0", true);
        may("0;1", false);
        may("1?1", true);
        may("1?0", false);
        may("0?1", false);
        may("0?1;0?1;0?1", false);
        may("0?0;1", true);
        may("0?1;0", false);
        may("0?0;0?0;1?1", true);
        may("-1?1;0", true);
        may("7?0;1", false);
        may(LEAST + "?1", true);
        may("0?0;1?1;0", true);
        may("0?1;1?0;1", false);
    }

    private static void notZero() {
        Check.says("Not 0: these two MAY be so.");
        for (String text : new String[] {"1", "-1", "2", "-2", "9999", LEAST, LEAST + "-1", "a", "b", "a-b", "i-j"}) {
            may(text, true);
        }
        for (String text : new String[] {"0", "-0", "0000", "a-3", "b-5", "s", "i", "1-j", LEAST + "+" + LEAST}) {
            may(text, false);
        }
    }

    private static void withoutAText() {
        Check.says("Without a text: if a and b are unlike.");
        for (int a = 0; a < 6; a++) {
            for (int b = 0; b < 6; b++) {
                FourCubes x = Check.boxed(3, 111111 * (a + 1), 111111 * (b + 1));
                Check.due(a + " under " + b, x.judge(), a == b ? 1 : NOT);
            }
        }
    }

    private static void wornMayBeWithAll() {
        Check.says("One that is WORN MAY be with all; THE LAW is not asked.");
        for (int colour = 0; colour <= 6; colour++) {
            int solid = 111111 * (colour + 1);
            Check.due("worn under " + colour, Check.boxed(3, 777777, solid).judge(), NOT);
            Check.due("worn on " + colour, Check.boxed(3, solid, 777777).judge(), NOT);
            Check.due("worn under " + colour + ", the law is 0", Check.ruled("0", 3, 777777, solid).judge(), NOT);
            Check.due("worn on " + colour + ", the law is 0", Check.ruled("0", 3, solid, 777777).judge(), NOT);
        }
        // 6 would be less than no colour, and greater than each.
        Check.due("not as a 6 below", Check.ruled("a<6&b<6", 3, 777777, 111111).judge(), NOT);
        Check.due("5 is no WORN one", Check.ruled("0", 3, 666666, 666666).judge(), 1);
        FourCubes x = Check.boxed(3, 111711, 111111);
        Check.due("a worn face on side 3 alone", x.judge(), 1);
        x.paint(0, 6);
        Check.due("and on side 0", x.judge(), 101);
        x.paint(1, 6);
        x.paint(2, 6);
        Check.due("and on all", x.judge(), NOT);
    }
}
