import java.util.ArrayList;
import java.util.HashMap;
import java.util.HashSet;
import java.util.List;
import java.util.Map;
import java.util.Set;

/**
 * The document once more, in the slowest and plainest way: every combination is
 * tried, laws are worked out from their text, shelves are the host's own arrays
 * and bodies the host's own classes. Nothing is shared with FourCubes.
 */
final class Oracle {
    private static final int BAD = -1, NOT = -2, FULL = -3, STATE = -5;
    private static final String[] AROUND = {"5143", "0524", "4153", "0425", "0123", "2103"};
    private static final String OPPOSITE = "230154";

    private final List<int[]> cubes = new ArrayList<>();
    private final List<Integer> turnings = new ArrayList<>();
    private int box = 0;
    private String tape = "";
    private String law = null;
    private final Map<String, Boolean> known = new HashMap<>();
    private final List<int[]> done = new ArrayList<>();
    private final List<int[]> undone = new ArrayList<>();
    private final List<Heap> bodies = new ArrayList<>();
    private final List<Integer> trace = new ArrayList<>();
    private final Object[] shelves = new Object[6];

    // ---- cubes, the box

    int cube(int colours) {
        String digits = Integer.toString(colours);
        if (!digits.matches("[1-7]{6}")) {
            return BAD;
        }
        if (cubes.size() == 8) {
            return FULL;
        }
        int[] faces = new int[6];
        for (int k = 0; k < 6; k++) {
            faces[k] = digits.charAt(k) - '1';
        }
        cubes.add(faces);
        turnings.add(16);
        return cubes.size() - 1;
    }

    int cubes(int shelf, int i, int n) {
        if (shelf < 0 || shelf > 5 || n < 1 || n > 8) {
            return BAD;
        }
        if (shelves[shelf] != null && !(shelves[shelf] instanceof byte[])) {
            return -12;
        }
        int came = 0;
        try {
            byte[] row = (byte[]) shelves[shelf];
            for (long at = i; came < n && cubes.size() < 8; at += 6) {
                int[] faces = new int[6];
                for (int k = 0; k < 6; k++) {
                    faces[k] = row[Math.toIntExact(at + k)];
                    if (faces[k] < 0 || faces[k] > 6) {
                        return came;
                    }
                }
                cubes.add(faces);
                turnings.add(16);
                came++;
            }
        } catch (NullPointerException | ArrayIndexOutOfBoundsException | ArithmeticException e) {
            return came;
        }
        return came;
    }

    int paint(int cf, int colour) {
        if (!face(cf) || colour < 0 || colour > 6) {
            return BAD;
        }
        int was = cubes.get(cf / 10)[cf % 10];
        if (was != colour) {
            cubes.get(cf / 10)[cf % 10] = colour;
            undone.clear();
            done.add(new int[] {cf, was, colour});
            if (done.size() > 40) {
                done.remove(0);
            }
        }
        return was;
    }

    private boolean face(int cf) {
        return cf >= 0 && cf / 10 < cubes.size() && cf % 10 <= 5;
    }

    private boolean there(int cube) {
        return cube >= 0 && cube < cubes.size();
    }

    private boolean thereAll(int bits) {
        return bits >= 0 && bits < (1 << cubes.size());
    }

    int of(int cube, int what) {
        if (!there(cube)) {
            return BAD;
        }
        int[] f = cubes.get(cube);
        switch (what) {
            case 0: case 1: case 2: case 3: case 4: case 5: return f[what];
            case 6: return turnings.get(cube);
            case 10: return line(f[0], f[2]);
            case 11: return line(f[1], f[3]);
            case 12: return line(f[4], f[5]);
            default: return BAD;
        }
    }

    private static int line(int a, int b) {
        return a < b ? 10 * a + b : 10 * b + a;
    }

    int box(int bits) {
        if (!thereAll(bits) || Integer.bitCount(bits) > 4) {
            return BAD;
        }
        int was = box;
        box = bits;
        return was;
    }

    int feed(int letter) {
        if (letter < 0 || letter > 255) {
            return BAD;
        }
        if (tape.length() == 120) {
            return FULL;
        }
        tape += (char) letter;
        return tape.length();
    }

    int law() {
        int fault = fault(tape);
        if (fault < 0) {
            law = tape;
            known.clear();
        }
        tape = "";
        return fault < 0 ? 1 : -100 - fault;
    }

    int turn(int cube, int turning) {
        if (!there(cube) || turning < 0 || turning > 23) {
            return BAD;
        }
        return turnings.set(cube, turning);
    }

    int shows(int cube, int turning, int what) {
        if (!there(cube) || turning < 0 || turning > 23 || what < 0 || what > 5) {
            return BAD;
        }
        return seen(cubes.get(cube), turning, what);
    }

    private static int seen(int[] faces, int t, int what) {
        if (what == 4) {
            return faces[t / 4];
        }
        if (what == 5) {
            return faces[OPPOSITE.charAt(t / 4) - '0'];
        }
        String row = AROUND[t / 4] + AROUND[t / 4];
        return faces[row.charAt(t % 4 + what) - '0'];
    }

    // ---- the law, by a walk over the bytes with a pile of what is open

    static int fault(String text) {
        boolean wantsOperand = true;
        boolean guarded = false;
        int digits = 0;
        StringBuilder open = new StringBuilder();
        List<Boolean> compared = new ArrayList<>(List.of(false));
        for (int at = 0; at < text.length(); at++) {
            char c = text.charAt(at);
            int last = compared.size() - 1;
            if (wantsOperand) {
                if (c == '(' || c == '!' || c == '-') {
                    if (open.length() == 6) {
                        return at;
                    }
                    open.append(c);
                    if (c == '(') {
                        compared.add(false);
                    }
                    continue;
                }
                if ("absij0123456789".indexOf(c) < 0) {
                    return at;
                }
                digits = Character.isDigit(c) ? 1 : 4;
                wantsOperand = false;
                closeTurned(open);
                continue;
            }
            if (c >= '0' && c <= '9' && digits < 4) {
                digits++;
                continue;
            }
            digits = 4;
            if ("+-*/%".indexOf(c) >= 0) {
                wantsOperand = true;
            } else if ("<=>".indexOf(c) >= 0 && !compared.get(last)) {
                compared.set(last, true);
                wantsOperand = true;
            } else if (c == '&' || c == '|') {
                compared.set(last, false);
                wantsOperand = true;
            } else if (c == ')' && last > 0) {
                compared.remove(last);
                open.setLength(open.length() - 1);
                closeTurned(open);
            } else if (c == '?' && last == 0 && !guarded) {
                guarded = true;
                compared.set(0, false);
                wantsOperand = true;
            } else if (c == ';' && last == 0) {
                guarded = false;
                compared.set(0, false);
                wantsOperand = true;
            } else {
                return at;
            }
        }
        return wantsOperand || compared.size() > 1 ? text.length() : -1;
    }

    private static void closeTurned(StringBuilder open) {
        while (open.length() > 0 && open.charAt(open.length() - 1) != '(') {
            open.setLength(open.length() - 1);
        }
    }

    /** The value of a whole text, by cutting it at its last sign of the weakest kind. */
    static int value(String text, Map<Character, Integer> names) {
        for (String row : text.split(";")) {
            int q = row.indexOf('?');
            if (q < 0) {
                return part(row, names);
            }
            if (part(row.substring(0, q), names) != 0) {
                return part(row.substring(q + 1), names);
            }
        }
        return 0;
    }

    private static int part(String e, Map<Character, Integer> names) {
        for (String kind : new String[] {"|", "&", "<=>", "+-", "*/%"}) {
            int cut = lastOutside(e, kind);
            if (cut > 0) {
                return join(e.charAt(cut), part(e.substring(0, cut), names), part(e.substring(cut + 1), names));
            }
        }
        char c = e.charAt(0);
        if (c == '!') {
            return part(e.substring(1), names) == 0 ? 1 : 0;
        }
        if (c == '-') {
            return -part(e.substring(1), names);
        }
        if (c == '(') {
            return part(e.substring(1, e.length() - 1), names);
        }
        return names.containsKey(c) ? names.get(c) : Integer.parseInt(e);
    }

    private static int lastOutside(String e, String kind) {
        int depth = 0;
        for (int at = e.length() - 1; at > 0; at--) {
            char c = e.charAt(at);
            depth += c == ')' ? 1 : c == '(' ? -1 : 0;
            boolean between = ")absij0123456789".indexOf(e.charAt(at - 1)) >= 0;
            if (depth == 0 && between && kind.indexOf(c) >= 0) {
                return at;
            }
        }
        return -1;
    }

    private static int join(char c, int l, int r) {
        switch (c) {
            case '|': return l != 0 | r != 0 ? 1 : 0;
            case '&': return l != 0 & r != 0 ? 1 : 0;
            case '<': return l < r ? 1 : 0;
            case '=': return l == r ? 1 : 0;
            case '>': return l > r ? 1 : 0;
            case '+': return (int) ((long) l + r);
            case '-': return (int) ((long) l - r);
            case '*': return (int) ((long) l * r);
            case '/': return r == 0 ? 0 : (int) ((long) l / r);
            default: return r == 0 ? 0 : (int) ((long) l % r);
        }
    }

    private boolean may(int a, int b, int s, int i, int j) {
        if (a == 6 || b == 6) {
            return true;
        }
        if (law == null) {
            return a != b;
        }
        return known.computeIfAbsent("" + a + b + s + i + j,
            k -> value(law, Map.of('a', a, 'b', b, 's', s, 'i', i, 'j', j)) != 0);
    }

    // ---- the tower

    private List<Integer> members(int bits) {
        List<Integer> list = new ArrayList<>();
        for (int k = 0; k < 8; k++) {
            if ((bits >> k & 1) == 1) {
                list.add(k);
            }
        }
        return list;
    }

    /** wrong[lower][higher][t][u]: on how many sides the two MAY not be so. */
    private int[][][][] wrongs(List<Integer> members) {
        int n = members.size();
        int[][][][] wrong = new int[n][n][24][24];
        for (int i = 0; i < n; i++) {
            for (int j = i + 1; j < n; j++) {
                for (int t = 0; t < 24; t++) {
                    for (int u = 0; u < 24; u++) {
                        for (int s = 0; s < 4; s++) {
                            int a = seen(cubes.get(members.get(i)), t, s);
                            int b = seen(cubes.get(members.get(j)), u, s);
                            wrong[i][j][t][u] += may(a, b, s, i, j) ? 0 : 1;
                        }
                    }
                }
            }
        }
        return wrong;
    }

    int judge() {
        List<Integer> m = members(box);
        for (int s = 0; s < 4; s++) {
            for (int i = 0; i < m.size(); i++) {
                for (int j = i + 1; j < m.size(); j++) {
                    int a = seen(cubes.get(m.get(i)), turnings.get(m.get(i)), s);
                    int b = seen(cubes.get(m.get(j)), turnings.get(m.get(j)), s);
                    if (!may(a, b, s, i, j)) {
                        return 100 * s + 10 * i + j;
                    }
                }
            }
        }
        return NOT;
    }

    /** Tries every row of turnings: how many are right, the first of them, the fewest wrong pairs. */
    private final class Trial {
        int ways = 0;
        int[] first = null;
        int least = Integer.MAX_VALUE;

        Trial(int bits, int held, boolean onlyOne) {
            List<Integer> m = members(bits);
            int[][][][] wrong = wrongs(m);
            int n = m.size();
            int[] t = new int[n];
            int rows = 1;
            for (int k = 0; k < n; k++) {
                rows *= 24;
            }
            for (int row = 0; row < rows && !(onlyOne && ways > 0); row++) {
                boolean told = true;
                int rest = row;
                for (int k = n - 1; k >= 0; k--) {
                    t[k] = rest % 24;
                    rest /= 24;
                    if ((held >> m.get(k) & 1) == 1) {
                        told &= t[k] == turnings.get(m.get(k));
                    } else if (k == 0) {
                        told &= t[k] % 4 == 0;
                    }
                }
                if (!told) {
                    continue;
                }
                int sum = 0;
                for (int i = 0; i < n; i++) {
                    for (int j = i + 1; j < n; j++) {
                        sum += wrong[i][j][t[i]][t[j]];
                    }
                }
                least = Math.min(least, sum);
                if (sum == 0) {
                    ways++;
                    first = first == null ? t.clone() : first;
                }
            }
        }
    }

    private boolean way(int bits) {
        return new Trial(bits, 0, true).ways > 0;
    }

    int ways(int held, int k) {
        if (!thereAll(held) || k < -1 || k >= members(box).size()) {
            return BAD;
        }
        Trial trial = new Trial(box, held, false);
        if (k == -1) {
            return trial.ways;
        }
        return trial.first == null ? NOT : trial.first[k];
    }

    int near(int held) {
        return thereAll(held) ? new Trial(box, held, false).least : BAD;
    }

    int build(int turning, int what) {
        if (turning < 0 || turning > 23 || what < 0 || what > 1) {
            return BAD;
        }
        List<Integer> m = members(box);
        if (m.isEmpty()) {
            return STATE;
        }
        int[][][][] wrong = wrongs(m);
        int[] t = new int[m.size()];
        t[0] = turning;
        int looks = 0;
        for (int j = 1; j < m.size(); j++) {
            boolean stands = false;
            for (t[j] = 0; t[j] < 24; t[j]++) {
                looks++;
                stands = true;
                for (int i = 0; i < j; i++) {
                    stands &= wrong[i][j][t[i]][t[j]] == 0;
                }
                if (stands) {
                    break;
                }
            }
            if (!stands) {
                return what == 0 ? j : looks;
            }
        }
        return what == 0 ? NOT : looks;
    }

    int mend(int what) {
        if (what < 0 || what > 3) {
            return BAD;
        }
        int many = 0;
        int[] first = null;
        for (int k : members(box)) {
            for (int f = 0; f < 6; f++) {
                for (int c = 0; c < 6; c++) {
                    int was = cubes.get(k)[f];
                    if (c == was) {
                        continue;
                    }
                    cubes.get(k)[f] = c;
                    if (way(box)) {
                        many++;
                        first = first == null ? new int[] {k, f, c} : first;
                    }
                    cubes.get(k)[f] = was;
                }
            }
        }
        if (what == 0) {
            return many;
        }
        return first == null ? NOT : first[what - 1];
    }

    int open(int cf) {
        if (!face(cf)) {
            return BAD;
        }
        int[] f = cubes.get(cf / 10);
        if (f[cf % 10] != 6 || !members(box).contains(cf / 10)) {
            return STATE;
        }
        int bits = 0;
        for (int c = 0; c < 6; c++) {
            f[cf % 10] = c;
            bits += way(box) ? 1 << c : 0;
        }
        f[cf % 10] = 6;
        return bits;
    }

    int swap(int what) {
        if (what != 0 && what != 1) {
            return BAD;
        }
        int others = 0;
        for (int k = 0; k < cubes.size(); k++) {
            others += (box >> k & 1) == 0 ? 1 << k : 0;
        }
        if (members(others).size() > 4) {
            return STATE;
        }
        for (int x : members(box)) {
            for (int y : members(others)) {
                if (way(box - (1 << x) + (1 << y)) && way(others - (1 << y) + (1 << x))) {
                    return what == 0 ? x : y;
                }
            }
        }
        return NOT;
    }

    int rings(int what) {
        if (what != 0 && what != 1) {
            return BAD;
        }
        if (box == 0) {
            return STATE;
        }
        List<String> rings = new ArrayList<>();
        rings(members(box), "", "", rings);
        int parted = 0;
        for (int i = 0; i < rings.size(); i++) {
            for (int j = 0; j < i; j++) {
                boolean shares = false;
                for (int k = 0; k < rings.get(i).length(); k++) {
                    shares |= rings.get(i).charAt(k) == rings.get(j).charAt(k);
                }
                parted += shares ? 0 : 1;
            }
        }
        return what == 0 ? rings.size() : parted;
    }

    private void rings(List<Integer> m, String lines, String ends, List<String> found) {
        if (lines.length() == m.size()) {
            char[] sorted = ends.toCharArray();
            java.util.Arrays.sort(sorted);
            if (new String(sorted).equals("00112233".substring(0, 2 * m.size()))) {
                found.add(lines);
            }
            return;
        }
        int cube = m.get(lines.length());
        for (int l = 0; l < 3; l++) {
            int two = of(cube, 10 + l);
            rings(m, lines + l, ends + two / 10 + two % 10, found);
        }
    }

    // ---- cubes by themselves

    int alike(int ab) {
        if (ab < 0 || !there(ab / 10) || !there(ab % 10)) {
            return BAD;
        }
        int[] one = cubes.get(ab / 10);
        String other = text(cubes.get(ab % 10), 16);
        int[] glass = {one[0], one[3], one[2], one[1], one[4], one[5]};
        Set<String> turned = new HashSet<>();
        Set<String> mirrored = new HashSet<>();
        for (int t = 0; t < 24; t++) {
            turned.add(text(one, t));
            mirrored.add(text(glass, t));
        }
        return turned.contains(other) ? 1 : mirrored.contains(other) ? 2 : 0;
    }

    private static String text(int[] faces, int t) {
        StringBuilder all = new StringBuilder();
        for (int w = 0; w < 6; w++) {
            all.append(seen(faces, t, w));
        }
        return all.toString();
    }

    /** Burnside over the turnings themselves: the rings of faces that each makes. */
    long many(int n, int what) {
        if (n < 1 || n > 1000 || what < 0 || what > 1) {
            return BAD;
        }
        long sum = 0;
        int[] faces = {0, 1, 2, 3, 4, 5};
        int[] glass = {0, 3, 2, 1, 4, 5};
        for (int t = 0; t < 24; t++) {
            sum += power(n, rounds(text(faces, t)));
            sum += what == 1 ? power(n, rounds(text(glass, t))) : 0;
        }
        return sum / (what == 1 ? 48 : 24);
    }

    private static int rounds(String image) {
        boolean[] been = new boolean[6];
        int rounds = 0;
        for (int f = 0; f < 6; f++) {
            rounds += been[f] ? 0 : 1;
            for (int at = f; !been[at]; at = image.charAt(at) - '0') {
                been[at] = true;
            }
        }
        return rounds;
    }

    private static long power(long n, int k) {
        return k == 0 ? 1 : n * power(n, k - 1);
    }

    int sight(int colours, int cube) {
        if (!String.format("%03d", colours).matches("[0-5]{3}") || cube != -1 && !there(cube)) {
            return BAD;
        }
        if (cube != -1) {
            return sightOf(colours, cube);
        }
        int bits = 0;
        for (int k = 0; k < cubes.size(); k++) {
            bits += sightOf(colours, k) != 0 ? 1 << k : 0;
        }
        return bits;
    }

    private int sightOf(int colours, int cube) {
        int bits = 0;
        for (int t = 0; t < 24; t++) {
            int[] f = cubes.get(cube);
            boolean all = fits(seen(f, t, 4), colours / 100) && fits(seen(f, t, 0), colours / 10 % 10)
                && fits(seen(f, t, 1), colours % 10);
            bits += all ? 1 << t : 0;
        }
        return bits;
    }

    private static boolean fits(int a, int b) {
        return a == b || a == 6 || b == 6;
    }

    int wall(int k) {
        if (k < -1 || k > 3) {
            return BAD;
        }
        List<Integer> m = members(box);
        if (m.size() < 4) {
            return STATE;
        }
        int many = 0;
        int[] first = null;
        int[][][] see = new int[4][24][6];
        for (int p = 0; p < 4; p++) {
            for (int t = 0; t < 24; t++) {
                for (int w = 0; w < 6; w++) {
                    see[p][t][w] = seen(cubes.get(m.get(p)), t, w);
                }
            }
        }
        for (int row = 0; row < 24 * 24 * 24 * 24; row++) {
            int[] t = {row / 13824, row / 576 % 24, row / 24 % 24, row % 24};
            if (fits(see[0][t[0]][1], see[1][t[1]][3]) && fits(see[2][t[2]][1], see[3][t[3]][3])
                && fits(see[0][t[0]][4], see[2][t[2]][5]) && fits(see[1][t[1]][4], see[3][t[3]][5])) {
                many++;
                first = first == null ? t : first;
            }
        }
        if (k == -1) {
            return many;
        }
        return first == null ? NOT : first[k];
    }

    int great(int colour) {
        if (colour < 0 || colour > 5) {
            return BAD;
        }
        int bits = 0;
        for (int k = 0; k < cubes.size(); k++) {
            // Top, front and right of some turning are the faces at a corner.
            bits += sightOf(111 * colour, k) != 0 ? 1 << k : 0;
        }
        return bits;
    }

    int undo() {
        if (done.isEmpty()) {
            return STATE;
        }
        int[] c = done.remove(done.size() - 1);
        cubes.get(c[0] / 10)[c[0] % 10] = c[1];
        undone.add(c);
        return done.size();
    }

    int redo() {
        if (undone.isEmpty()) {
            return STATE;
        }
        int[] c = undone.remove(undone.size() - 1);
        cubes.get(c[0] / 10)[c[0] % 10] = c[2];
        done.add(c);
        return undone.size();
    }

    // ---- acts: the host's own classes

    private interface Turns {
        List<Integer> trace();

        int n();

        default int turns(int x) {
            trace().add(1);
            return x + n();
        }
    }

    private interface Tells {
        List<Integer> trace();

        int shows(int x);

        int lies(int x);

        default int tells(int x) {
            trace().add(2);
            return shows(x) - lies(1);
        }
    }

    private static class Heap implements Turns, Tells {
        private final List<Integer> trace;
        private final int n;

        Heap(List<Integer> trace, int n) {
            this.trace = trace;
            this.n = n;
        }

        int kind() {
            return 0;
        }

        @Override
        public List<Integer> trace() {
            return trace;
        }

        @Override
        public int n() {
            return n;
        }

        @Override
        public int shows(int x) {
            trace.add(10);
            return turns(x) * 2;
        }

        @Override
        public int lies(int x) {
            trace.add(11);
            return x ^ n;
        }
    }

    private static class Tower extends Heap {
        Tower(List<Integer> trace, int n) {
            super(trace, n);
        }

        @Override
        int kind() {
            return 1;
        }

        @Override
        public int turns(int x) {
            trace().add(20);
            return super.turns(x) + 3;
        }
    }

    private static class Wall extends Heap {
        Wall(List<Integer> trace, int n) {
            super(trace, n);
        }

        @Override
        int kind() {
            return 2;
        }

        @Override
        public int shows(int x) {
            trace().add(30);
            return -super.shows(x);
        }
    }

    private static final class Great extends Wall {
        Great(List<Integer> trace, int n) {
            super(trace, n);
        }

        @Override
        int kind() {
            return 3;
        }

        @Override
        public int lies(int x) {
            trace().add(40);
            return super.lies(x) * 3;
        }

        @Override
        public int shows(int x) {
            trace().add(41);
            return super.shows(x + 1);
        }
    }

    private static class Row extends Tower {
        Row(List<Integer> trace, int n) {
            super(trace, n);
        }

        @Override
        int kind() {
            return 4;
        }

        @Override
        public int tells(int x) {
            trace().add(50);
            return super.tells(x) ^ 5;
        }
    }

    private static final class Bar extends Row {
        Bar(List<Integer> trace, int n) {
            super(trace, n);
        }

        @Override
        int kind() {
            return 5;
        }

        @Override
        public int lies(int x) {
            trace().add(60);
            return super.lies(x) - turns(2);
        }

        @Override
        public int tells(int x) {
            trace().add(61);
            return super.tells(x) + 1;
        }
    }

    private static class Told extends Heap {
        Told(List<Integer> trace, int n) {
            super(trace, n);
        }

        @Override
        int kind() {
            return 6;
        }

        @Override
        public int turns(int x) {
            trace().add(70);
            return super.turns(x) * 2;
        }
    }

    private static final class Worn extends Told {
        Worn(List<Integer> trace, int n) {
            super(trace, n);
        }

        @Override
        int kind() {
            return 7;
        }

        @Override
        public int shows(int x) {
            trace().add(80);
            return super.shows(x) + lies(2);
        }

        @Override
        public int turns(int x) {
            trace().add(81);
            return super.turns(x) - 1;
        }
    }

    private Heap made(int kind) {
        int n = bodies.size();
        switch (kind) {
            case 0: return new Heap(trace, n);
            case 1: return new Tower(trace, n);
            case 2: return new Wall(trace, n);
            case 3: return new Great(trace, n);
            case 4: return new Row(trace, n);
            case 5: return new Bar(trace, n);
            case 6: return new Told(trace, n);
            default: return new Worn(trace, n);
        }
    }

    int body(int kind) {
        if (kind < 0 || kind > 7) {
            return BAD;
        }
        if (bodies.size() == 50) {
            return FULL;
        }
        bodies.add(made(kind));
        return bodies.size() - 1;
    }

    int act(int body, int act, int x) {
        trace.clear();
        if (body < 0 || body >= bodies.size()) {
            return 0;
        }
        Heap b = bodies.get(body);
        switch (act) {
            case 0: return b.turns(x);
            case 1: return b.shows(x);
            case 2: return b.lies(x);
            case 3: return b.tells(x);
            default: return 0;
        }
    }

    int trace(int i) {
        return i < 0 || i >= Math.min(24, trace.size()) ? BAD : trace.get(i);
    }

    // ---- shelves: the host's own arrays and refusals

    int keep(int shelf, int body) {
        if (shelf < 0 || shelf > 5 || body < -1 || body >= bodies.size()) {
            return BAD;
        }
        shelves[shelf] = body == -1 ? null : bodies.get(body);
        return 1;
    }

    int row(int shelf, int sort, int n) {
        if (shelf < 0 || shelf > 5 || sort < 0 || sort > 4 || n > 60) {
            return BAD;
        }
        Class<?>[] sorts = {byte.class, short.class, int.class, long.class, boolean.class};
        try {
            shelves[shelf] = java.lang.reflect.Array.newInstance(sorts[sort], n);
        } catch (NegativeArraySizeException e) {
            return -14;
        }
        return 1;
    }

    int put(int shelf, int i, long v) {
        if (shelf < 0 || shelf > 5) {
            return BAD;
        }
        Object held = shelves[shelf];
        try {
            if (held instanceof byte[]) {
                ((byte[]) held)[i] = (byte) v;
            } else if (held instanceof short[]) {
                ((short[]) held)[i] = (short) v;
            } else if (held instanceof int[]) {
                ((int[]) held)[i] = (int) v;
            } else if (held instanceof long[]) {
                ((long[]) held)[i] = v;
            } else if (held instanceof boolean[]) {
                ((boolean[]) held)[i] = v != 0;
            } else {
                return held == null ? -11 : -12;
            }
        } catch (ArrayIndexOutOfBoundsException e) {
            return -13;
        }
        return 1;
    }

    long element(int shelf, int i) {
        try {
            Object held = shelves[shelf];
            Object got = java.lang.reflect.Array.get(held, i);
            return got instanceof Boolean ? (Boolean) got ? 1 : 0 : ((Number) got).longValue();
        } catch (IllegalArgumentException | NullPointerException | ArrayIndexOutOfBoundsException e) {
            return Long.MIN_VALUE;
        }
    }

    @SuppressWarnings("SuspiciousSystemArraycopy")
    int shift(int shelf, int i, int other, int j, int n) {
        if (shelf < 0 || shelf > 5 || other < 0 || other > 5) {
            return BAD;
        }
        try {
            System.arraycopy(shelves[shelf], i, shelves[other], j, n);
        } catch (NullPointerException e) {
            return -11;
        } catch (ArrayStoreException e) {
            return -12;
        } catch (IndexOutOfBoundsException e) {
            return -13;
        }
        return n;
    }

    int taken(int shelf, int k) {
        if (shelf < 0 || shelf > 5 || k < 0 || k > 7) {
            return BAD;
        }
        if (shelves[shelf] == null) {
            return -11;
        }
        Class<?>[] kinds = {Heap.class, Tower.class, Wall.class, Great.class, Row.class, Bar.class, Told.class, Worn.class};
        return kinds[k].isInstance(shelves[shelf]) ? ((Heap) shelves[shelf]).kind() : -12;
    }

    int count(int what) {
        int[] counts = {cubes.size(), box, tape.length(), done.size(), bodies.size(), trace.size()};
        return what < 0 || what > 5 ? BAD : counts[what];
    }
}
