import java.util.Random;

/** Texts of laws, made by the grammar, some of them broken. */
final class Texts {
    private final Random random;
    private final StringBuilder text = new StringBuilder();

    private Texts(Random random) {
        this.random = random;
    }

    static String any(Random random) {
        Texts t = new Texts(random);
        int lines = 1 + random.nextInt(3);
        for (int k = 0; k < lines; k++) {
            t.put(k == 0 ? "" : ";");
            t.e(0);
            if (random.nextInt(2) == 0) {
                t.put("?");
                t.e(0);
            }
        }
        String made = t.text.length() > 120 ? t.text.substring(0, 120) : t.text.toString();
        return random.nextInt(3) == 0 ? broken(random, made) : made;
    }

    private static String broken(Random random, String made) {
        String signs = "abskij0129|&<=>+-*/%!()?; \u00e9\u0000";
        StringBuilder text = new StringBuilder(made);
        int at = random.nextInt(text.length());
        char sign = signs.charAt(random.nextInt(signs.length()));
        switch (random.nextInt(4)) {
            case 0: text.setCharAt(at, sign); break;
            case 1: text.deleteCharAt(at); break;
            case 2: text.insert(at, sign); break;
            default: text.setLength(at); break;
        }
        return text.length() > 120 ? text.substring(0, 120) : text.toString();
    }

    private void put(String s) {
        text.append(s);
    }

    private boolean more(int depth) {
        return random.nextInt(4 + 2 * depth) == 0 && text.length() < 100;
    }

    private void e(int depth) {
        a(depth);
        while (more(depth)) {
            put("|");
            a(depth);
        }
    }

    private void a(int depth) {
        b(depth);
        while (more(depth)) {
            put("&");
            b(depth);
        }
    }

    private void b(int depth) {
        s(depth);
        if (random.nextInt(2) == 0) {
            put("<=>".substring(random.nextInt(3)).substring(0, 1));
            s(depth);
        }
    }

    private void s(int depth) {
        p(depth);
        while (more(depth)) {
            put(random.nextBoolean() ? "+" : "-");
            p(depth);
        }
    }

    private void p(int depth) {
        o(depth);
        while (more(depth)) {
            put("*/%".substring(random.nextInt(3)).substring(0, 1));
            o(depth);
        }
    }

    private void o(int depth) {
        int which = random.nextInt(depth < 6 && text.length() < 90 ? 10 : 7);
        if (which < 5) {
            put("aabbsij".substring(random.nextInt(7)).substring(0, 1));
        } else if (which < 7) {
            int digits = 1 + random.nextInt(random.nextInt(20) == 0 ? 4 : 1);
            for (int k = 0; k < digits; k++) {
                put(Integer.toString(random.nextInt(10)));
            }
        } else if (which == 7) {
            put("!");
            o(depth + 1);
        } else if (which == 8) {
            put("-");
            o(depth + 1);
        } else {
            put("(");
            e(depth + 1);
            put(")");
        }
    }
}
