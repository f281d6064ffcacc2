/** Boundary cases of promises 26 to 28, and of BODIES in the terms: a sentence a method. */
public final class ActsEdgesTest {
    private static final int BAD = -1, FULL = -3;
    private static final int MIN = Integer.MIN_VALUE, MAX = Integer.MAX_VALUE;

    public static void main(String[] args) {
        kinds();
        fifty();
        theirNumbers();
        actsOfABody();
        noTraceThen();
        latestAct();
        intsThatWrap();
        Check.finish("ActsEdgesTest");
    }

    private static void kinds() {
        Check.says("body: A BODY of a KIND (0 .. 7) is kept: its number. BAD.");
        FourCubes x = new FourCubes();
        int number = 0;
        for (int kind = -2; kind <= 9; kind++) {
            boolean there = kind >= 0 && kind <= 7;
            Check.due("body(" + kind + ")", x.body(kind), there ? number : BAD);
            number += there ? 1 : 0;
            Check.due("how many", x.count(4), number);
        }
        Check.due("the least int", x.body(MIN), BAD);
        Check.due("the greatest int", x.body(MAX), BAD);
        for (int kind = 0; kind < 8; kind++) {
            x.keep(0, kind);
            Check.due("its kind", x.taken(0, 0), kind);
        }
    }

    private static void fifty() {
        Check.says("BODIES 0 .. 49 are kept by call. body: FULL.");
        FourCubes x = new FourCubes();
        for (int k = 0; k < 49; k++) {
            Check.due("body " + k, x.body(7), k);
        }
        Check.due("no body 49 as yet", x.keep(0, 49), BAD);
        Check.due("the fiftieth", x.body(3), 49);
        Check.due("it is there", x.keep(0, 49), 1);
        Check.due("the fifty-first", x.body(0), FULL);
        Check.due("it is not there", x.keep(0, 50), BAD);
        Check.due("fifty", x.count(4), 50);
        Check.due("the fiftieth is what it was", x.taken(0, 3), 3);
        Check.due("the first is what it was", x.act(0, 0, 5), 5 * 2 - 1);
    }

    private static void theirNumbers() {
        Check.says("ACTS with x: .. n its number. TURNS: 1 turns: x + n. 11 lies: x ^ n.");
        FourCubes x = new FourCubes();
        for (int k = 0; k < 50; k++) {
            x.body(0);
        }
        for (int n : new int[] {0, 1, 2, 48, 49}) {
            Check.due("turns of " + n, x.act(n, 0, 100), 100 + n);
            Check.due("shows of " + n, x.act(n, 1, 100), (100 + n) * 2);
            Check.due("lies of " + n, x.act(n, 2, 100), 100 ^ n);
            Check.due("tells of " + n, x.act(n, 3, 100), (100 + n) * 2 - (1 ^ n));
        }
    }

    private static void actsOfABody() {
        Check.says("act: An ACT (0 .. 3) of a BODY with x. 0 .. : no such BODY, ACT.");
        FourCubes x = new FourCubes();
        Check.due("no body at all", x.act(0, 0, 5), 0);
        x.body(0);
        x.body(0);
        int[] due = {0, 9, 18, 9, 18, 0};
        for (int act = -1; act <= 4; act++) {
            Check.due("act " + act + " of 1", x.act(1, act, 8), due[act + 1]);
            Check.due("how many ran", x.count(5), act < 0 || act > 3 ? 0 : new int[] {1, 2, 1, 4}[act]);
        }
        Check.due("body -1", x.act(-1, 0, 8), 0);
        Check.due("body 2", x.act(2, 0, 8), 0);
        for (int any : new int[] {MIN, MAX}) {
            Check.due("body " + any, x.act(any, 0, 8), 0);
            Check.due("act " + any, x.act(0, any, 8), 0);
        }
    }

    private static void noTraceThen() {
        Check.says("act: 0, and no TRACE then: no such BODY, ACT. trace: BAD.");
        int[][] none = {{-1, 0}, {1, 0}, {0, -1}, {0, 4}, {1, 4}, {MIN, MIN}, {MAX, MAX}};
        for (int[] w : none) {
            FourCubes x = new FourCubes();
            x.body(5);
            x.act(0, 3, 1);
            Check.due("the first of ten", x.trace(0), 61);
            Check.due("the last of ten", x.trace(9), 1);
            Check.due("act(" + w[0] + ", " + w[1] + ", 1)", x.act(w[0], w[1], 1), 0);
            Check.due("none ran", x.count(5), 0);
            Check.due("no first", x.trace(0), BAD);
            Check.due("no last", x.trace(9), BAD);
        }
        // An answer of 0 alone is no such refusal.
        FourCubes x = new FourCubes();
        x.body(0);
        Check.due("turns 0", x.act(0, 0, 0), 0);
        Check.due("one ran", x.count(5), 1);
        Check.due("it is", x.trace(0), 1);
    }

    private static void latestAct() {
        Check.says("THE TRACE: numbers of the bodies that ran in the latest act(), as they began; the first 24 are kept.");
        FourCubes x = new FourCubes();
        for (int kind = 0; kind < 8; kind++) {
            x.body(kind);
        }
        Check.due("no act as yet", x.trace(0), BAD);
        // The longest of all: with ten, none goes beyond 24.
        x.act(5, 3, 0);
        int[] longest = {61, 50, 2, 10, 20, 1, 60, 11, 20, 1};
        for (int i = -2; i <= 25; i++) {
            Check.due("trace(" + i + ")", x.trace(i), i >= 0 && i < 10 ? longest[i] : BAD);
        }
        Check.due("ten", x.count(5), 10);
        x.act(0, 2, 0);
        Check.due("of the latest alone", x.count(5), 1);
        Check.due("of the latest alone", x.trace(0), 11);
        Check.due("no second", x.trace(1), BAD);
        Check.due("the least int", x.trace(MIN), BAD);
        Check.due("the greatest int", x.trace(MAX), BAD);
        x.body(1);
        x.keep(0, 0);
        Check.due("other calls leave it", x.trace(0), 11);
    }

    private static void intsThatWrap() {
        Check.says("ACTS with x (an int that wraps).");
        FourCubes x = new FourCubes();
        for (int kind = 0; kind < 8; kind++) {
            x.body(kind);
        }
        Check.due("TOWER turns: the greatest, 1 and 3", x.act(1, 0, MAX), MIN + 3);
        Check.due("HEAP shows: twice the greatest", x.act(0, 1, MAX), -2);
        Check.due("HEAP shows: twice the least", x.act(0, 1, MIN), 0);
        Check.due("WALL shows: less the least is the least", x.act(2, 1, (1 << 30) - 2), MIN);
        Check.due("GREAT shows: one more than the greatest", x.act(3, 1, MAX), -((MIN + 3) * 2));
        Check.due("GREAT lies: three times", x.act(3, 2, MAX), (MAX ^ 3) * 3);
        Check.due("TOLD turns: twice", x.act(6, 0, MAX), (MIN + 5) * 2);
        Check.due("WORN turns: one less than the least", x.act(7, 0, (1 << 30) - 7), MAX);
        Check.due("BAR lies: less than the least", x.act(5, 2, MIN ^ 5), MAX - 9);
        Check.due("BAR tells, the greatest", x.act(5, 3, MAX), (((MIN + 7) * 2 - ((1 ^ 5) - 10)) ^ 5) + 1);
        Check.due("HEAP tells: the least", x.act(0, 3, MIN), -1);
    }
}
