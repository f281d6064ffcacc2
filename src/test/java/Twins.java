import java.util.ArrayList;
import java.util.List;
import java.util.function.Consumer;
import java.util.function.ToLongFunction;

/** Two objects with one past, of which one gets a call more: if it changes nothing, both answer alike ever after. */
final class Twins {
    private static final int MOST_CHANGES = 40;

    private Twins() {
    }

    /** The call answers as due, and changes nothing. */
    static void unchanged(Consumer<FourCubes> past, String call, ToLongFunction<FourCubes> ask, long due) {
        FourCubes asked = new FourCubes();
        FourCubes other = new FourCubes();
        past.accept(asked);
        past.accept(other);
        Check.due(call, ask.applyAsLong(asked), due);
        Check.yes("nothing is changed by " + call, all(asked).equals(all(other)));
    }

    /** All that can be asked, in some 350 calls; the object is used up by it. */
    private static List<Long> all(FourCubes x) {
        List<Long> answers = new ArrayList<>();
        for (int what = 0; what < 6; what++) {
            answers.add((long) x.count(what));
        }
        for (int i = 0; i < 11; i++) {
            answers.add((long) x.trace(i));
        }
        askCubes(x, 7, answers);
        askShelves(x, answers);
        askTower(x, answers);
        for (int k = 0; k <= MOST_CHANGES; k++) {
            answers.add((long) x.redo());
        }
        askCubes(x, 6, answers);
        for (int k = 0; k <= MOST_CHANGES; k++) {
            answers.add((long) x.undo());
        }
        askCubes(x, 6, answers);
        // What stands on THE TAPE is seen when it becomes THE LAW.
        answers.add((long) x.law());
        askTower(x, answers);
        answers.add((long) x.cube(123456));
        answers.add((long) x.body(0));
        return answers;
    }

    private static void askCubes(FourCubes x, int whats, List<Long> answers) {
        for (int k = 0; k < 8 * whats; k++) {
            answers.add((long) x.of(k / whats, k % whats));
        }
    }

    private static void askShelves(FourCubes x, List<Long> answers) {
        for (int shelf = 0; shelf < 6; shelf++) {
            answers.add((long) x.taken(shelf, 0));
            for (int i = 0; i < 13; i++) {
                answers.add(x.element(shelf, i));
            }
        }
    }

    private static void askTower(FourCubes x, List<Long> answers) {
        answers.add((long) x.judge());
        answers.add((long) x.ways(0, -1));
        answers.add((long) x.near(0));
    }

    // ---- pasts

    /** Some of everything: five cubes, four of them in the box, a law, a tape, changes done and undone, bodies, shelves. */
    static void rich(FourCubes x) {
        cubes(x, 123412, 341227, 421314, 134224, 712233);
        x.box(15);
        x.turn(0, 3);
        x.turn(2, 9);
        x.turn(4, 23);
        feed(x, "a<b|s=2");
        x.law();
        feed(x, "a>b");
        x.paint(0, 5);
        x.paint(11, 6);
        x.paint(24, 2);
        x.paint(35, 1);
        x.undo();
        x.undo();
        shelves(x);
    }

    /** A body on shelf 0, bytes on 1, ints on 2, nothing on 3, no bytes at all on 4, booleans on 5. */
    private static void shelves(FourCubes x) {
        x.body(5);
        x.body(3);
        x.body(0);
        x.act(0, 3, 7);
        x.keep(0, 1);
        x.row(1, 0, 12);
        for (int i = 0; i < 12; i++) {
            x.put(1, i, i % 7);
        }
        x.row(2, 2, 3);
        x.put(2, 0, 1000);
        x.put(2, 2, -7);
        x.row(4, 0, 0);
        x.row(5, 4, 2);
        x.put(5, 1, 1);
    }

    static void cubes(FourCubes x, int... colours) {
        for (int c : colours) {
            x.cube(c);
        }
    }

    static void feed(FourCubes x, String text) {
        for (int k = 0; k < text.length(); k++) {
            x.feed(text.charAt(k));
        }
    }

    /** Rich, and as many cubes as there may be. */
    static void eightCubes(FourCubes x) {
        rich(x);
        cubes(x, 111111, 222222, 333333);
    }

    /** Four cubes in the box, and as many bytes as there may be: whole as a text. */
    static void fullTape(FourCubes x) {
        cubes(x, 123412, 341227, 421314, 134224);
        x.box(15);
        feed(x, "!a");
        for (int k = 0; k < 59; k++) {
            feed(x, "+b");
        }
    }

    static void fiftyBodies(FourCubes x) {
        rich(x);
        for (int k = 3; k < 50; k++) {
            x.body(k % 8);
        }
    }

    /** Rich, but there is no WAY: THE LAW gives 0. */
    static void noWay(FourCubes x) {
        rich(x);
        x.law();
        feed(x, "0");
        x.law();
        feed(x, "a>b");
    }

    /** Rich, but the box is empty: five cubes are not in it. */
    static void emptyBox(FourCubes x) {
        rich(x);
        x.box(0);
    }

    /** Rich, but one is missing for a wall. */
    static void threeInBox(FourCubes x) {
        rich(x);
        x.box(22);
    }

    /** Rich, but all that was undone is done again, so that nothing is left for redo. */
    static void allDone(FourCubes x) {
        rich(x);
        x.redo();
        x.redo();
    }

    /** Rich, but all is undone. */
    static void allUndone(FourCubes x) {
        rich(x);
        x.undo();
        x.undo();
    }
}
