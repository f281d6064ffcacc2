import java.util.Arrays;

/**
 * Four cubes in a heap: cubes of six faces that are turned and put one on
 * another as a law has it, and all that can be asked of them. The document
 * DOC.md says what each call answers; its terms are used here as they stand.
 *
 * Every row is made in the constructors and used again, so that no call makes
 * an object.
 */
public final class FourCubes {
    public static final int BAD = -1, NOT = -2, FULL = -3, STATE = -5, VOID = -2000000000;

    private static final int NOTHING_THERE = -11, OTHER_KIND = -12, NO_SUCH_PLACE = -13, SIZE_BELOW_ZERO = -14;

    private static final int MOST_CUBES = 8, MOST_IN_BOX = 4, MOST_SHELVES = 6;
    private static final int FACES = 6, LINES = 3, SIDES = 4, COLOURS = 6, WORN = 6, SHADES = 7;
    private static final int FRONT = 0, RIGHT = 1, LEFT = 3, TOP = 4, BELOW = 5;
    private static final int TURNINGS = 24, ALL_TURNINGS = 0xFFFFFF;
    private static final int PAIRS = 6;

    private static final int[] OPPOSITE = {2, 3, 0, 1, 5, 4};

    /** By turning (four in a row here): the faces in front, right, behind, left, on top, below. */
    private static final int[] STANDING = {
        5, 1, 4, 3, 0, 2,  1, 4, 3, 5, 0, 2,  4, 3, 5, 1, 0, 2,  3, 5, 1, 4, 0, 2,
        0, 5, 2, 4, 1, 3,  5, 2, 4, 0, 1, 3,  2, 4, 0, 5, 1, 3,  4, 0, 5, 2, 1, 3,
        4, 1, 5, 3, 2, 0,  1, 5, 3, 4, 2, 0,  5, 3, 4, 1, 2, 0,  3, 4, 1, 5, 2, 0,
        0, 4, 2, 5, 3, 1,  4, 2, 5, 0, 3, 1,  2, 5, 0, 4, 3, 1,  5, 0, 4, 2, 3, 1,
        0, 1, 2, 3, 4, 5,  1, 2, 3, 0, 4, 5,  2, 3, 0, 1, 4, 5,  3, 0, 1, 2, 4, 5,
        2, 1, 0, 3, 5, 4,  1, 0, 3, 2, 5, 4,  0, 3, 2, 1, 5, 4,  3, 2, 1, 0, 5, 4};

    /** By pair of places in a tower: the lower one, the higher one. */
    private static final int[] LOWER = {0, 0, 1, 0, 1, 2};
    private static final int[] HIGHER = {1, 2, 2, 3, 3, 3};

    private final Cube[] heap;
    private int size;
    private int boxed;
    private final Law rule;
    private final Tower tower;
    private final Rings circles;
    private final Past past;
    private final Bodies bodies;
    private final Shelf[] shelves;

    public FourCubes() {
        heap = new Cube[MOST_CUBES];
        for (int k = 0; k < MOST_CUBES; k++) {
            heap[k] = new Cube();
        }
        rule = new Law();
        tower = new Tower(heap, rule, new Search());
        circles = new Rings();
        past = new Past();
        bodies = new Bodies();
        shelves = new Shelf[MOST_SHELVES];
        for (int k = 0; k < MOST_SHELVES; k++) {
            shelves[k] = new Shelf();
        }
    }

    // ---- cubes, the box

    public int cube(int colours) {
        if (!areSixColours(colours)) {
            return BAD;
        }
        if (size >= MOST_CUBES) {
            return FULL;
        }
        int rest = colours;
        for (int face = FACES - 1; face >= 0; face--) {
            heap[size].faces[face] = rest % 10 - 1;
            rest /= 10;
        }
        size++;
        return size - 1;
    }

    public int cubes(int shelf, int i, int n) {
        // The place is not looked at here: the row just has no six at one that is not there.
        if (!isShelf(shelf) || n < 1 || n > MOST_CUBES) {
            return BAD;
        }
        Shelf from = shelves[shelf];
        if (from.isBare()) {
            return 0;
        }
        if (!from.isRow() || from.sort != Shelf.BYTES) {
            return OTHER_KIND;
        }
        int came = 0;
        while (came < n && size < MOST_CUBES && from.hasSixColours(i + FACES * came)) {
            for (int face = 0; face < FACES; face++) {
                heap[size].faces[face] = (int) from.elements[i + FACES * came + face];
            }
            size++;
            came++;
        }
        return came;
    }

    public int paint(int cf, int colour) {
        if (!isFace(cf) || colour < 0 || colour > WORN) {
            return BAD;
        }
        int was = colourAt(cf);
        if (colour != was) {
            past.add(cf, was, colour);
            setColour(cf, colour);
        }
        return was;
    }

    public int of(int cube, int what) {
        if (!isCube(cube)) {
            return BAD;
        }
        if (what >= 0 && what < FACES) {
            return heap[cube].faces[what];
        }
        if (what == 6) {
            return heap[cube].turning;
        }
        if (what >= 10 && what < 10 + LINES) {
            return heap[cube].line(what - 10);
        }
        return BAD;
    }

    public int box(int bits) {
        if (!areCubes(bits) || Integer.bitCount(bits) > MOST_IN_BOX) {
            return BAD;
        }
        int was = boxed;
        boxed = bits;
        return was;
    }

    public int feed(int letter) {
        if (letter < 0 || letter > 255) {
            return BAD;
        }
        return rule.takeByte(letter);
    }

    public int law() {
        return rule.takeTape();
    }

    public int turn(int cube, int turning) {
        if (!isCube(cube) || !isTurning(turning)) {
            return BAD;
        }
        int was = heap[cube].turning;
        heap[cube].turning = turning;
        return was;
    }

    public int shows(int cube, int turning, int what) {
        if (!isCube(cube) || !isTurning(turning) || what < 0 || what >= FACES) {
            return BAD;
        }
        return heap[cube].seen(turning, what);
    }

    // ---- the tower

    public int judge() {
        tower.pile(boxed);
        return tower.firstWrong();
    }

    public int ways(int held, int k) {
        if (!areCubes(held) || k < -1 || k >= Integer.bitCount(boxed)) {
            return BAD;
        }
        tower.pile(boxed);
        tower.startFrom(held);
        tower.fitAll();
        return tower.search.answer(k);
    }

    public int near(int held) {
        if (!areCubes(held)) {
            return BAD;
        }
        tower.pile(boxed);
        tower.startFrom(held);
        return tower.leastWrong();
    }

    public int build(int turning, int what) {
        if (!isTurning(turning) || what < 0 || what > 1) {
            return BAD;
        }
        if (boxed == 0) {
            return STATE;
        }
        tower.pile(boxed);
        tower.fitAll();
        return what == 0 ? tower.stuckFrom(turning) : tower.looksFrom(turning);
    }

    public int mend(int what) {
        if (what < 0 || what > 3) {
            return BAD;
        }
        tower.pile(boxed);
        tower.findMends(what > 0);
        if (what == 0) {
            return tower.mends;
        }
        if (tower.mends == 0) {
            return NOT;
        }
        if (what == 1) {
            return tower.firstMend / 100;
        }
        return what == 2 ? tower.firstMend / 10 % 10 : tower.firstMend % 10;
    }

    public int open(int cf) {
        if (!isFace(cf)) {
            return BAD;
        }
        if (colourAt(cf) != WORN || (boxed >> cf / 10 & 1) == 0) {
            return STATE;
        }
        tower.pile(boxed);
        int colours = 0;
        for (int colour = 0; colour < COLOURS; colour++) {
            if (tower.goesWith(heap[cf / 10], cf % 10, colour)) {
                colours |= 1 << colour;
            }
        }
        return colours;
    }

    public int swap(int what) {
        if (what < 0 || what > 1) {
            return BAD;
        }
        int others = (1 << size) - 1 & ~boxed;
        if (Integer.bitCount(others) > MOST_IN_BOX) {
            return STATE;
        }
        for (int mine = 0; mine < size; mine++) {
            for (int theirs = 0; theirs < size; theirs++) {
                if ((boxed >> mine & 1) != 0 && (others >> theirs & 1) != 0
                        && goesExchanged(others, 1 << mine | 1 << theirs)) {
                    return what == 0 ? mine : theirs;
                }
            }
        }
        return NOT;
    }

    public int rings(int what) {
        if (what < 0 || what > 1) {
            return BAD;
        }
        if (boxed == 0) {
            return STATE;
        }
        tower.pile(boxed);
        circles.gather(tower.parts, tower.height);
        return what == 0 ? circles.found : circles.parted();
    }

    // ---- cubes by themselves

    public int alike(int ab) {
        if (ab < 0 || !isCube(ab / 10) || !isCube(ab % 10)) {
            return BAD;
        }
        Cube one = heap[ab / 10];
        Cube other = heap[ab % 10];
        if (one.turnsInto(other, false)) {
            return 1;
        }
        return one.turnsInto(other, true) ? 2 : 0;
    }

    public long many(int n, int what) {
        if (n < 1 || n > 1000 || what < 0 || what > 1) {
            return BAD;
        }
        // Burnside: over the 24 turnings, or those and their 24 images in a
        // glass, the mean of the colourings that each leaves as they are.
        long n2 = (long) n * n;
        long n3 = n2 * n;
        long turned = n3 * n3 + 3 * n2 * n2 + 12 * n3 + 8 * n2;
        if (what == 0) {
            return turned / 24;
        }
        long mirrored = 3 * n3 * n2 + 6 * n2 * n2 + n3 + 6 * n2 + 8 * n;
        return (turned + mirrored) / 48;
    }

    public int sight(int colours, int cube) {
        if (colours < 0 || colours / 100 >= COLOURS || colours / 10 % 10 >= COLOURS || colours % 10 >= COLOURS) {
            return BAD;
        }
        if (isCube(cube)) {
            return heap[cube].turningsThatShow(colours);
        }
        if (cube != -1) {
            return BAD;
        }
        int bits = 0;
        for (int k = 0; k < size; k++) {
            if (heap[k].turningsThatShow(colours) != 0) {
                bits |= 1 << k;
            }
        }
        return bits;
    }

    public int wall(int k) {
        if (k < -1 || k >= MOST_IN_BOX) {
            return BAD;
        }
        if (Integer.bitCount(boxed) < MOST_IN_BOX) {
            return STATE;
        }
        tower.pile(boxed);
        tower.fitWall();
        return tower.search.answer(k);
    }

    public int great(int colour) {
        if (colour < 0 || colour >= COLOURS) {
            return BAD;
        }
        int bits = 0;
        for (int k = 0; k < size; k++) {
            if (heap[k].hasCornerOf(colour)) {
                bits |= 1 << k;
            }
        }
        return bits;
    }

    public int undo() {
        if (past.done <= 0) {
            return STATE;
        }
        past.done--;
        setColour(past.faces[past.done], past.before[past.done]);
        return past.done;
    }

    public int redo() {
        if (past.done >= past.kept) {
            return STATE;
        }
        setColour(past.faces[past.done], past.after[past.done]);
        past.done++;
        return past.kept - past.done;
    }

    // ---- acts, shelves

    public int body(int kind) {
        if (!isKind(kind)) {
            return BAD;
        }
        return bodies.add(kind);
    }

    public int act(int body, int act, int x) {
        return bodies.perform(body, act, x);
    }

    public int trace(int i) {
        return i < 0 || i >= bodies.traced() ? BAD : bodies.ranBodies[i];
    }

    public int keep(int shelf, int body) {
        if (!isShelf(shelf) || body < -1 || body >= bodies.size) {
            return BAD;
        }
        if (body < 0) {
            shelves[shelf].clear();
        } else {
            shelves[shelf].holdBody(body);
        }
        return 1;
    }

    public int row(int shelf, int sort, int n) {
        if (!isShelf(shelf) || sort < 0 || sort >= Shelf.SORTS || n > Shelf.LONGEST) {
            return BAD;
        }
        if (n < 0) {
            return SIZE_BELOW_ZERO;
        }
        shelves[shelf].holdRow(sort, n);
        return 1;
    }

    public int put(int shelf, int i, long v) {
        int refusal = refusalOf(shelf, i);
        if (refusal != 0) {
            return refusal;
        }
        shelves[shelf].store(i, v);
        return 1;
    }

    public long element(int shelf, int i) {
        return refusalOf(shelf, i) != 0 ? Long.MIN_VALUE : shelves[shelf].elements[i];
    }

    public int shift(int shelf, int i, int other, int j, int n) {
        if (!isShelf(shelf) || !isShelf(other)) {
            return BAD;
        }
        Shelf from = shelves[shelf];
        Shelf to = shelves[other];
        if (from.isBare() || to.isBare()) {
            return NOTHING_THERE;
        }
        if (!from.isRow() || !to.isRow() || from.sort != to.sort) {
            return OTHER_KIND;
        }
        if (!from.hasStretch(i, n) || !to.hasStretch(j, n)) {
            return NO_SUCH_PLACE;
        }
        System.arraycopy(from.elements, i, to.elements, j, n);
        return n;
    }

    public int taken(int shelf, int k) {
        if (!isShelf(shelf) || !isKind(k)) {
            return BAD;
        }
        Shelf from = shelves[shelf];
        if (from.isBare()) {
            return NOTHING_THERE;
        }
        if (from.isRow() || !Bodies.isUnder(bodies.kindOf(from.body), k)) {
            return OTHER_KIND;
        }
        return bodies.kindOf(from.body);
    }

    public int count(int what) {
        switch (what) {
            case 0: return size;
            case 1: return boxed;
            case 2: return rule.fed;
            case 3: return past.done;
            case 4: return bodies.size;
            case 5: return bodies.ran;
            default: return BAD;
        }
    }

    // ---- what numbers may be

    private static boolean areSixColours(int colours) {
        if (colours < 111111 || colours > 777777) {
            return false;
        }
        int rest = colours;
        for (int face = 0; face < FACES; face++) {
            if (rest % 10 < 1 || rest % 10 > WORN + 1) {
                return false;
            }
            rest /= 10;
        }
        return true;
    }

    private static boolean isShelf(int shelf) {
        return shelf >= 0 && shelf < MOST_SHELVES;
    }

    private static boolean isTurning(int turning) {
        return turning >= 0 && turning < TURNINGS;
    }

    private static boolean isKind(int kind) {
        return kind >= 0 && kind < Bodies.KINDS;
    }

    private boolean isCube(int cube) {
        return cube >= 0 && cube < size;
    }

    private boolean areCubes(int bits) {
        return bits >= 0 && bits < 1 << size;
    }

    private boolean isFace(int cf) {
        return cf >= 0 && isCube(cf / 10) && cf % 10 < FACES;
    }

    private int colourAt(int cf) {
        return heap[cf / 10].faces[cf % 10];
    }

    private void setColour(int cf, int colour) {
        heap[cf / 10].faces[cf % 10] = colour;
    }

    /** Whether both boxes have a WAY after the two cubes (bits) changed sides. */
    private boolean goesExchanged(int others, int two) {
        tower.pile(boxed ^ two);
        if (!tower.goes()) {
            return false;
        }
        tower.pile(others ^ two);
        return tower.goes();
    }

    /** Why element i of the row on a shelf can't be had; 0 if it can. */
    private int refusalOf(int shelf, int i) {
        if (!isShelf(shelf)) {
            return BAD;
        }
        Shelf from = shelves[shelf];
        if (from.isBare()) {
            return NOTHING_THERE;
        }
        if (!from.isRow()) {
            return OTHER_KIND;
        }
        return i < 0 || i >= from.length ? NO_SUCH_PLACE : 0;
    }

    private static final class Cube {
        final int[] faces = new int[FACES];
        int turning = 16;

        /** What stands where (0 to 3 on sides, 4 on top, 5 below) by a turning. */
        int seen(int t, int where) {
            return faces[STANDING[FACES * t + where]];
        }

        /** The face at one end of a line (0 to 2). */
        static int endOf(int line) {
            return line == 2 ? TOP : line;
        }

        int line(int which) {
            int end = endOf(which);
            int one = faces[end];
            int other = faces[OPPOSITE[end]];
            return 10 * Math.min(one, other) + Math.max(one, other);
        }

        boolean turnsInto(Cube other, boolean inGlass) {
            for (int t = 0; t < TURNINGS; t++) {
                if (isLike(other, t, inGlass)) {
                    return true;
                }
            }
            return false;
        }

        private boolean isLike(Cube other, int t, boolean inGlass) {
            for (int where = 0; where < FACES; where++) {
                int face = STANDING[FACES * t + where];
                boolean exchanged = inGlass && (face == RIGHT || face == LEFT);
                if (faces[exchanged ? OPPOSITE[face] : face] != other.faces[where]) {
                    return false;
                }
            }
            return true;
        }

        /** Turnings (bits) that show three colours: on top, in front, right. */
        int turningsThatShow(int colours) {
            int bits = 0;
            for (int t = 0; t < TURNINGS; t++) {
                if (mayShow(t, TOP, colours / 100) && mayShow(t, FRONT, colours / 10 % 10)
                        && mayShow(t, RIGHT, colours % 10)) {
                    bits |= 1 << t;
                }
            }
            return bits;
        }

        /** Turnings (bits) that show where a colour; any colour, if it is WORN. */
        int turningsWith(int where, int colour) {
            int bits = 0;
            for (int t = 0; t < TURNINGS; t++) {
                if (colour == WORN || mayShow(t, where, colour)) {
                    bits |= 1 << t;
                }
            }
            return bits;
        }

        private boolean mayShow(int t, int where, int colour) {
            return mayBe(STANDING[FACES * t + where], colour);
        }

        private boolean mayBe(int face, int colour) {
            return faces[face] == colour || faces[face] == WORN;
        }

        boolean hasCornerOf(int colour) {
            // No corner has two opposite faces: it has one end of each line.
            for (int line = 0; line < LINES; line++) {
                int end = endOf(line);
                if (!mayBe(end, colour) && !mayBe(OPPOSITE[end], colour)) {
                    return false;
                }
            }
            return true;
        }
    }

    /** THE TAPE, and THE LAW that it became: read into signs in the order in which they work, and worked out for all that can be asked. */
    private static final class Law {
        private static final int LONGEST = 120, DEEPEST = 6, MOST_DIGITS = 4;
        private static final int EITHER = 0, COMPARED = 2, OPERAND = 5;
        /** Signs for what has no letter of its own, or shares one. */
        private static final int LESS = '~', LINE = ';', LINE_IF = '?';

        final int[] tape = new int[LONGEST];
        int fed;
        private int place;
        /** Numbers as they are, signs below 0; each byte gives one at most, and the end one more. */
        private final int[] code = new int[LONGEST + 1];
        private int length;
        private final int[] stack = new int[LONGEST + 1];
        private int a, b, s, i, j;
        /** By pair, side, the lower shade and the higher one (WORN ones, too): whether they MAY be so. */
        private final boolean[] may = new boolean[PAIRS * SIDES * SHADES * SHADES];

        Law() {
            workOutAll();
        }

        int takeByte(int letter) {
            if (fed >= LONGEST) {
                return FULL;
            }
            tape[fed] = letter;
            fed++;
            return fed;
        }

        int takeTape() {
            place = 0;
            length = 0;
            boolean whole = readText();
            fed = 0;
            if (!whole) {
                return -100 - place;
            }
            // THE LAW is what was worked out last: a FAULT leaves it as it was.
            workOutAll();
            return 1;
        }

        private int peek() {
            return place < fed ? tape[place] : -1;
        }

        private void emit(int sign) {
            if (length < code.length) {
                code[length] = sign;
                length++;
            }
        }

        private boolean readText() {
            for (int lines = 0; lines <= LONGEST; lines++) {
                if (!readLine()) {
                    return false;
                }
                if (place >= fed) {
                    return true;
                }
                if (peek() != ';') {
                    return false;
                }
                place++;
            }
            return false;
        }

        private boolean readLine() {
            if (!readLevel(EITHER, 0)) {
                return false;
            }
            if (peek() != '?') {
                emit(-LINE);
                return true;
            }
            place++;
            if (!readLevel(EITHER, 0)) {
                return false;
            }
            emit(-LINE_IF);
            return true;
        }

        /** Levels: 0 E, 1 A, 2 B, 3 S, 4 P, 5 O; open: how many of ( ! - stand open. */
        private boolean readLevel(int level, int open) {
            if (level >= OPERAND) {
                return readOperand(open);
            }
            if (!readLevel(level + 1, open)) {
                return false;
            }
            int most = level == COMPARED ? 1 : LONGEST;
            for (int k = 0; k < most && isJoin(peek(), level); k++) {
                int sign = peek();
                place++;
                if (!readLevel(level + 1, open)) {
                    return false;
                }
                emit(-sign);
            }
            return true;
        }

        private static boolean isJoin(int sign, int level) {
            switch (sign) {
                case '|': return level == 0;
                case '&': return level == 1;
                case '<': case '=': case '>': return level == COMPARED;
                case '+': case '-': return level == 3;
                case '*': case '/': case '%': return level == 4;
                default: return false;
            }
        }

        private boolean readOperand(int open) {
            int sign = peek();
            if (isDigit(sign)) {
                readNumber();
                return true;
            }
            if (isName(sign)) {
                place++;
                emit(-sign);
                return true;
            }
            if (sign != '(' && sign != '!' && sign != '-' || open >= DEEPEST) {
                return false;
            }
            place++;
            return sign == '(' ? readInside(open + 1) : readTurned(sign, open + 1);
        }

        private boolean readInside(int open) {
            if (!readLevel(EITHER, open) || peek() != ')') {
                return false;
            }
            place++;
            return true;
        }

        private boolean readTurned(int sign, int open) {
            if (!readOperand(open)) {
                return false;
            }
            emit(sign == '-' ? -LESS : -sign);
            return true;
        }

        private void readNumber() {
            int number = 0;
            for (int digits = 0; digits < MOST_DIGITS && isDigit(peek()); digits++) {
                number = 10 * number + peek() - '0';
                place++;
            }
            emit(number);
        }

        private static boolean isDigit(int sign) {
            return sign >= '0' && sign <= '9';
        }

        private static boolean isName(int sign) {
            return sign == 'a' || sign == 'b' || sign == 's' || sign == 'i' || sign == 'j';
        }

        boolean allows(int pair, int side, int lowColour, int highColour) {
            return may[((pair * SIDES + side) * SHADES + lowColour) * SHADES + highColour];
        }

        private void workOutAll() {
            for (int k = 0; k < may.length; k++) {
                int pair = k / (SIDES * SHADES * SHADES);
                a = k / SHADES % SHADES;
                b = k % SHADES;
                s = k / (SHADES * SHADES) % SIDES;
                i = LOWER[pair];
                j = HIGHER[pair];
                may[k] = a == WORN || b == WORN || (length == 0 ? a != b : workedOut() != 0);
            }
        }

        private int workedOut() {
            int top = 0;
            for (int k = 0; k < length; k++) {
                int sign = -code[k];
                if (sign <= 0 || isName(sign)) {
                    if (top < stack.length) {
                        stack[top] = sign <= 0 ? -sign : named(sign);
                        top++;
                    }
                } else if (sign == '!' || sign == LESS) {
                    if (top >= 1) {
                        stack[top - 1] = turned(sign, stack[top - 1]);
                    }
                } else if (sign == LINE) {
                    return top >= 1 ? stack[top - 1] : 0;
                } else if (top >= 2) {
                    top -= 2;
                    int left = stack[top];
                    int right = stack[top + 1];
                    if (sign != LINE_IF) {
                        stack[top] = joined(sign, left, right);
                        top++;
                    } else if (left != 0) {
                        return right;
                    }
                }
            }
            return 0;
        }

        private int named(int name) {
            switch (name) {
                case 'a': return a;
                case 'b': return b;
                case 's': return s;
                case 'i': return i;
                default: return j;
            }
        }

        private static int turned(int sign, int value) {
            if (sign == LESS) {
                return -value;
            }
            return value == 0 ? 1 : 0;
        }

        private static int joined(int sign, int left, int right) {
            switch (sign) {
                case '|': return left != 0 || right != 0 ? 1 : 0;
                case '&': return left != 0 && right != 0 ? 1 : 0;
                case '<': return left < right ? 1 : 0;
                case '=': return left == right ? 1 : 0;
                case '>': return left > right ? 1 : 0;
                case '+': return left + right;
                case '-': return left - right;
                case '*': return left * right;
                case '/': return right == 0 ? 0 : left / right;
                case '%': return right == 0 ? 0 : left % right;
                default: return 0;
            }
        }
    }

    /** Turnings for places one after another, of which each pair must fit. */
    private static final class Search {
        int height;
        /** By place: turnings (bits) that it may have at all. */
        final int[] starts = new int[MOST_IN_BOX];
        /** By pair and the lower one's turning: turnings (bits) of the higher one that fit. */
        final int[] fits = new int[PAIRS * TURNINGS];
        final int[] turns = new int[MOST_IN_BOX];

        static int pairOf(int low, int high) {
            return high * (high - 1) / 2 + low;
        }

        void fitAny(int pair) {
            for (int t = 0; t < TURNINGS; t++) {
                fits[pair * TURNINGS + t] = ALL_TURNINGS;
            }
        }

        int fitting(int place, int turnings) {
            int bits = turnings;
            for (int low = 0; low < place; low++) {
                bits &= fits[pairOf(low, place) * TURNINGS + turns[low]];
            }
            return bits;
        }

        /** How many (k -1), or the k-th turning of the first. */
        int answer(int k) {
            if (k < 0) {
                return total(0);
            }
            return find(0) ? turns[k] : NOT;
        }

        boolean hasAny() {
            return find(0);
        }

        private int total(int place) {
            if (place >= height) {
                return 1;
            }
            int bits = fitting(place, starts[place]);
            if (place == height - 1) {
                return Integer.bitCount(bits);
            }
            int sum = 0;
            for (int t = 0; t < TURNINGS; t++) {
                if ((bits >> t & 1) != 0) {
                    turns[place] = t;
                    sum += total(place + 1);
                }
            }
            return sum;
        }

        private boolean find(int place) {
            if (place >= height) {
                return true;
            }
            int bits = fitting(place, starts[place]);
            for (int t = 0; t < TURNINGS; t++) {
                if ((bits >> t & 1) != 0) {
                    turns[place] = t;
                    if (find(place + 1)) {
                        return true;
                    }
                }
            }
            return false;
        }
    }

    /** At most four cubes one on another, or two on two as a wall. */
    private static final class Tower {
        /** Turnings with t % 4 = 0: a tower turned as a whole counts once. */
        private static final int LOWEST_TURNINGS = 0x111111;
        private static final int MENDS_A_CUBE = FACES * COLOURS;

        private final Cube[] heap;
        private final Law law;
        final Search search;
        final Cube[] parts = new Cube[MOST_IN_BOX];
        private final int[] numbers = new int[MOST_IN_BOX];
        int height;
        /** By a lower place's colour: turnings (bits) of the higher one that MAY be with it on a side. */
        private final int[] allowed = new int[COLOURS + 1];
        private final int[] shown = new int[COLOURS + 1];
        /** By pair, lower and higher turning: on how many sides they MAY not be so. */
        private final byte[] costs = new byte[PAIRS * TURNINGS * TURNINGS];
        /** By place: the least that this place and those above it can add. */
        private final int[] ahead = new int[MOST_IN_BOX + 1];
        private int least;
        int mends;
        /** 100 times the cube, 10 times the face, and the colour. */
        int firstMend;

        Tower(Cube[] heap, Law law, Search search) {
            this.heap = heap;
            this.law = law;
            this.search = search;
            // So that no place is ever without a cube, whatever its height.
            for (int place = 0; place < MOST_IN_BOX; place++) {
                parts[place] = heap[place];
            }
        }

        void pile(int bits) {
            height = 0;
            for (int k = 0; k < heap.length && height < MOST_IN_BOX; k++) {
                if ((bits >> k & 1) != 0) {
                    parts[height] = heap[k];
                    numbers[height] = k;
                    height++;
                }
            }
            search.height = height;
        }

        int firstWrong() {
            for (int side = 0; side < SIDES; side++) {
                for (int low = 0; low < height; low++) {
                    for (int high = low + 1; high < height; high++) {
                        int a = parts[low].seen(parts[low].turning, side);
                        int b = parts[high].seen(parts[high].turning, side);
                        if (!law.allows(Search.pairOf(low, high), side, a, b)) {
                            return 100 * side + 10 * low + high;
                        }
                    }
                }
            }
            return NOT;
        }

        void startFrom(int held) {
            for (int place = 0; place < height; place++) {
                if ((held >> numbers[place] & 1) != 0) {
                    search.starts[place] = 1 << parts[place].turning;
                } else {
                    search.starts[place] = place == 0 ? LOWEST_TURNINGS : ALL_TURNINGS;
                }
            }
        }

        void fitAll() {
            for (int high = 1; high < height; high++) {
                for (int low = 0; low < high; low++) {
                    fitPair(Search.pairOf(low, high));
                }
            }
        }

        private void fitPair(int pair) {
            Cube low = parts[LOWER[pair]];
            search.fitAny(pair);
            for (int side = 0; side < SIDES; side++) {
                findAllowed(pair, side);
                for (int t = 0; t < TURNINGS; t++) {
                    search.fits[pair * TURNINGS + t] &= allowed[low.seen(t, side)];
                }
            }
        }

        private void findAllowed(int pair, int side) {
            Cube low = parts[LOWER[pair]];
            Cube high = parts[HIGHER[pair]];
            Arrays.fill(shown, 0);
            for (int t = 0; t < TURNINGS; t++) {
                shown[high.seen(t, side)] |= 1 << t;
            }
            Arrays.fill(allowed, 0);
            for (int face = 0; face < FACES; face++) {
                int a = low.faces[face];
                for (int b = 0; b < SHADES; b++) {
                    if (law.allows(pair, side, a, b)) {
                        allowed[a] |= shown[b];
                    }
                }
            }
        }

        /** Whether there is a WAY, none held. */
        boolean goes() {
            startFrom(0);
            fitAll();
            return search.hasAny();
        }

        boolean goesWith(Cube part, int face, int colour) {
            int was = part.faces[face];
            part.faces[face] = colour;
            boolean way = goes();
            part.faces[face] = was;
            return way;
        }

        /** Finds how many mends there are and the first; one is enough, if only the first is wanted. */
        void findMends(boolean onlyFirst) {
            mends = 0;
            for (int k = 0; k < height * MENDS_A_CUBE && !(onlyFirst && mends > 0); k++) {
                int place = k / MENDS_A_CUBE;
                int face = k / COLOURS % FACES;
                int colour = k % COLOURS;
                if (parts[place].faces[face] != colour && goesWith(parts[place], face, colour)) {
                    if (mends == 0) {
                        firstMend = 100 * numbers[place] + 10 * face + colour;
                    }
                    mends++;
                }
            }
        }

        /** The first place at which no turning MAY be with all below; NOT. */
        int stuckFrom(int turning) {
            search.turns[0] = turning;
            for (int place = 1; place < height; place++) {
                int bits = search.fitting(place, ALL_TURNINGS);
                if (bits == 0) {
                    return place;
                }
                search.turns[place] = Integer.numberOfTrailingZeros(bits);
            }
            return NOT;
        }

        int looksFrom(int turning) {
            int stuck = stuckFrom(turning);
            int built = stuck < 0 ? height : stuck;
            int looks = stuck < 0 ? 0 : TURNINGS;
            for (int place = 1; place < built; place++) {
                looks += search.turns[place] + 1;
            }
            return looks;
        }

        int leastWrong() {
            Arrays.fill(costs, (byte) 0);
            ahead[height] = 0;
            for (int high = height - 1; high >= 0; high--) {
                ahead[high] = ahead[high + 1];
                for (int low = 0; low < high; low++) {
                    ahead[high] += weigh(Search.pairOf(low, high));
                }
            }
            least = PAIRS * SIDES + 1;
            descend(0, 0);
            return least;
        }

        /** Fills the costs of a pair, and answers the least of them. */
        private int weigh(int pair) {
            Cube low = parts[LOWER[pair]];
            int from = pair * TURNINGS * TURNINGS;
            for (int side = 0; side < SIDES; side++) {
                findAllowed(pair, side);
                for (int k = 0; k < TURNINGS * TURNINGS; k++) {
                    int fitting = allowed[low.seen(k / TURNINGS, side)];
                    costs[from + k] += 1 - (fitting >> k % TURNINGS & 1);
                }
            }
            int lowest = SIDES;
            for (int k = 0; k < TURNINGS * TURNINGS; k++) {
                lowest = Math.min(lowest, costs[from + k]);
            }
            return lowest;
        }

        private void descend(int place, int sum) {
            if (sum + ahead[place] >= least) {
                return;
            }
            if (place >= height) {
                least = sum;
                return;
            }
            for (int t = 0; t < TURNINGS; t++) {
                if ((search.starts[place] >> t & 1) != 0) {
                    search.turns[place] = t;
                    descend(place + 1, sum + costOf(place, t));
                }
            }
        }

        private int costOf(int place, int t) {
            int sum = 0;
            for (int low = 0; low < place; low++) {
                sum += costs[(Search.pairOf(low, place) * TURNINGS + search.turns[low]) * TURNINGS + t];
            }
            return sum;
        }

        /** Fits four as a wall: 0 and 1 side by side, 2 on 0, 3 on 1. */
        void fitWall() {
            for (int place = 0; place < MOST_IN_BOX; place++) {
                search.starts[place] = ALL_TURNINGS;
            }
            for (int pair = 0; pair < PAIRS; pair++) {
                search.fitAny(pair);
            }
            touch(Search.pairOf(0, 1), RIGHT, LEFT);
            touch(Search.pairOf(2, 3), RIGHT, LEFT);
            touch(Search.pairOf(0, 2), TOP, BELOW);
            touch(Search.pairOf(1, 3), TOP, BELOW);
        }

        private void touch(int pair, int where, int otherWhere) {
            Cube low = parts[LOWER[pair]];
            Cube high = parts[HIGHER[pair]];
            for (int t = 0; t < TURNINGS; t++) {
                search.fits[pair * TURNINGS + t] = high.turningsWith(otherWhere, low.seen(t, where));
            }
        }
    }

    /** Choices of one line of each cube in which each colour is at two ends. */
    private static final class Rings {
        private static final int MOST = 81;

        /** Two bits for the line of each cube. */
        private final int[] choices = new int[MOST];
        private final int[] ends = new int[COLOURS + 1];
        int found;
        private int height;

        void gather(Cube[] parts, int cubes) {
            height = cubes;
            found = 0;
            for (int lines = 0; lines < 1 << 2 * height; lines++) {
                if (isChoice(lines) && isRing(parts, lines) && found < MOST) {
                    choices[found] = lines;
                    found++;
                }
            }
        }

        private static boolean isChoice(int lines) {
            return (lines & lines >> 1 & 0x55) == 0;
        }

        private boolean isRing(Cube[] parts, int lines) {
            Arrays.fill(ends, 0);
            for (int k = 0; k < height; k++) {
                int colours = parts[k].line(lines >> 2 * k & 3);
                ends[colours / 10]++;
                ends[colours % 10]++;
            }
            // Twice as many ends as cubes: two each leave none for another colour.
            for (int colour = 0; colour < height; colour++) {
                if (ends[colour] != 2) {
                    return false;
                }
            }
            return true;
        }

        int parted() {
            int pairs = 0;
            for (int one = 0; one < found; one++) {
                for (int other = one + 1; other < found; other++) {
                    if (shareNone(choices[one] ^ choices[other])) {
                        pairs++;
                    }
                }
            }
            return pairs;
        }

        private boolean shareNone(int unlike) {
            int unlikeLines = (unlike | unlike >> 1) & 0x55;
            return Integer.bitCount(unlikeLines) == height;
        }
    }

    /** Changes of faces' colours: those done, and behind them those undone. */
    private static final class Past {
        private static final int MOST = 40;

        final int[] faces = new int[MOST];
        final int[] before = new int[MOST];
        final int[] after = new int[MOST];
        int done;
        int kept;

        void add(int face, int was, int is) {
            if (done >= MOST) {
                forgetOldest();
            }
            faces[done] = face;
            before[done] = was;
            after[done] = is;
            done++;
            kept = done;
        }

        private void forgetOldest() {
            for (int k = 1; k < MOST; k++) {
                faces[k - 1] = faces[k];
                before[k - 1] = before[k];
                after[k - 1] = after[k];
            }
            done = MOST - 1;
        }
    }

    /** BODIES of kinds, whose acts come from their own kind or from above. */
    private static final class Bodies {
        static final int KINDS = 8;
        private static final int MOST = 50, ACTS = 4, MOST_TRACED = 24, DEEPEST = 20;
        private static final int TURNS = 0, SHOWS = 1, LIES = 2, TELLS = 3;

        /** By kind: the kind above it; HEAP has none. */
        private static final int[] ABOVE = {-1, 0, 0, 2, 1, 4, 0, 6};
        /** By kind and act: the body of its own, or 0. */
        private static final int[] OWN = {
            1, 10, 11, 2,
            20, 0, 0, 0,
            0, 30, 0, 0,
            0, 41, 40, 0,
            0, 0, 0, 50,
            0, 0, 60, 61,
            70, 0, 0, 0,
            81, 80, 0, 0};

        private final int[] kinds = new int[MOST];
        int size;
        final int[] ranBodies = new int[MOST_TRACED];
        int ran;
        /** The body that acts. */
        private int self;

        int add(int kind) {
            if (size >= MOST) {
                return FULL;
            }
            kinds[size] = kind;
            size++;
            return size - 1;
        }

        int kindOf(int body) {
            return body >= 0 && body < size ? kinds[body] : -1;
        }

        static boolean isUnder(int kind, int top) {
            int at = kind;
            for (int steps = 0; steps < KINDS && at >= 0; steps++) {
                if (at == top) {
                    return true;
                }
                at = ABOVE[at];
            }
            return false;
        }

        int traced() {
            return Math.min(ran, MOST_TRACED);
        }

        int perform(int body, int deed, int x) {
            ran = 0;
            if (body < 0 || body >= size || deed < 0 || deed >= ACTS) {
                return 0;
            }
            self = body;
            return runFrom(kinds[self], deed, x, 0);
        }

        /** Runs the body of a kind, or of the next kind above that has one. */
        private int runFrom(int kind, int deed, int x, int depth) {
            int at = kind;
            for (int steps = 0; steps < KINDS && at >= 0; steps++) {
                int found = OWN[ACTS * at + deed];
                if (found != 0) {
                    return run(found, at, x, depth);
                }
                at = ABOVE[at];
            }
            return 0;
        }

        private int run(int found, int kind, int x, int depth) {
            if (depth >= DEEPEST) {
                return 0;
            }
            if (ran < MOST_TRACED) {
                ranBodies[ran] = found;
            }
            ran++;
            int mine = kinds[self];
            int above = ABOVE[kind];
            int deeper = depth + 1;
            switch (found) {
                case 1: return x + self;
                case 2: return runFrom(mine, SHOWS, x, deeper) - runFrom(mine, LIES, 1, deeper);
                case 10: return runFrom(mine, TURNS, x, deeper) * 2;
                case 11: return x ^ self;
                case 20: return runFrom(above, TURNS, x, deeper) + 3;
                case 30: return -runFrom(above, SHOWS, x, deeper);
                case 40: return runFrom(above, LIES, x, deeper) * 3;
                case 41: return runFrom(above, SHOWS, x + 1, deeper);
                case 50: return runFrom(above, TELLS, x, deeper) ^ 5;
                case 60: return runFrom(above, LIES, x, deeper) - runFrom(mine, TURNS, 2, deeper);
                case 61: return runFrom(above, TELLS, x, deeper) + 1;
                case 70: return runFrom(above, TURNS, x, deeper) * 2;
                case 80: return runFrom(above, SHOWS, x, deeper) + runFrom(mine, LIES, 2, deeper);
                case 81: return runFrom(above, TURNS, x, deeper) - 1;
                default: return 0;
            }
        }
    }

    /** Holds nothing, a BODY, or a ROW. */
    private static final class Shelf {
        static final int BYTES = 0, SHORTS = 1, INTS = 2, LONGS = 3, SORTS = 5, LONGEST = 60;
        private static final int BARE = 0, BODY = 1, ROW = 2;

        private int holds = BARE;
        int body;
        int sort;
        int length;
        final long[] elements = new long[LONGEST];

        boolean isBare() {
            return holds == BARE;
        }

        boolean isRow() {
            return holds == ROW;
        }

        void clear() {
            holds = BARE;
        }

        void holdBody(int number) {
            holds = BODY;
            body = number;
        }

        void holdRow(int rowSort, int rowLength) {
            holds = ROW;
            sort = rowSort;
            length = rowLength;
            Arrays.fill(elements, 0);
        }

        void store(int place, long value) {
            switch (sort) {
                case BYTES: elements[place] = (byte) value; break;
                case SHORTS: elements[place] = (short) value; break;
                case INTS: elements[place] = (int) value; break;
                case LONGS: elements[place] = value; break;
                default: elements[place] = value != 0 ? 1 : 0; break;
            }
        }

        boolean hasStretch(int from, int n) {
            return from >= 0 && from <= length && n >= 0 && n <= length - from;
        }

        boolean hasSixColours(int from) {
            if (!hasStretch(from, FACES)) {
                return false;
            }
            for (int k = from; k < from + FACES; k++) {
                if (elements[k] < 0 || elements[k] > WORN) {
                    return false;
                }
            }
            return true;
        }
    }
}
