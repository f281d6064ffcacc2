import java.lang.reflect.Constructor;
import java.lang.reflect.Field;
import java.lang.reflect.Method;
import java.lang.reflect.Modifier;
import java.nio.file.Files;
import java.nio.file.Path;
import java.util.Arrays;
import java.util.List;
import java.util.Set;
import java.util.TreeSet;

/** The rules of LANGUAGE.md that a look at the source and the class can tell, and the public face. */
public final class LanguageTest {
    private static final String[] FACE = {"cube(int)", "cubes(int,int,int)", "paint(int,int)", "of(int,int)", "box(int)", "feed(int)",
        "law()", "turn(int,int)", "shows(int,int,int)", "judge()", "ways(int,int)", "near(int)", "build(int,int)", "mend(int)", "open(int)",
        "swap(int)", "rings(int)", "alike(int)", "many(int,int)", "sight(int,int)", "wall(int)", "great(int)", "undo()", "redo()", "body(int)",
        "act(int,int,int)", "trace(int)", "keep(int,int)", "row(int,int,int)", "put(int,int,long)", "element(int,int)",
        "shift(int,int,int,int,int)", "taken(int,int)", "count(int)"};
    private static final Set<String> CONSTANTS = Set.of("BAD", "NOT", "FULL", "STATE", "VOID");

    public static void main(String[] args) throws Exception {
        face();
        members();
        for (Class<?> inside : FourCubes.class.getDeclaredClasses()) {
            inside(inside);
        }
        source(Files.readAllLines(Path.of("src/main/java/FourCubes.java")));
        Check.finish("LanguageTest");
    }

    private static void face() {
        Class<?> c = FourCubes.class;
        Check.yes("public and final", Modifier.isPublic(c.getModifiers()) && Modifier.isFinal(c.getModifiers()));
        Constructor<?>[] made = c.getDeclaredConstructors();
        Check.yes("one public constructor", made.length == 1 && Modifier.isPublic(made[0].getModifiers()));
        Set<String> found = new TreeSet<>();
        for (Method m : c.getDeclaredMethods()) {
            if (!Modifier.isPrivate(m.getModifiers())) {
                StringBuilder name = new StringBuilder(m.getName()).append('(');
                for (Class<?> p : m.getParameterTypes()) {
                    name.append(name.charAt(name.length() - 1) == '(' ? "" : ",").append(p.getName());
                }
                found.add(name.append(')').toString());
                boolean isLong = m.getName().equals("many") || m.getName().equals("element");
                Check.yes(m + " answers", m.getReturnType() == (isLong ? long.class : int.class));
                Check.yes(m + " is public", Modifier.isPublic(m.getModifiers()) && !Modifier.isStatic(m.getModifiers()));
            }
        }
        Check.yes("the face is " + found, found.equals(new TreeSet<>(Arrays.asList(FACE))));
    }

    private static void members() {
        Set<String> names = new TreeSet<>();
        for (String m : FACE) {
            names.add(m.substring(0, m.indexOf('(')));
        }
        for (Method m : FourCubes.class.getDeclaredMethods()) {
            Check.yes(m + " bears a public name", !Modifier.isPrivate(m.getModifiers()) || !names.contains(m.getName()));
        }
        for (Class<?> inside : FourCubes.class.getDeclaredClasses()) {
            for (Method m : inside.getDeclaredMethods()) {
                Check.yes(m + " bears a public name", !names.contains(m.getName()));
            }
        }
        for (Field f : FourCubes.class.getDeclaredFields()) {
            boolean isFace = CONSTANTS.contains(f.getName());
            Check.yes(f + " is seen", Modifier.isPublic(f.getModifiers()) == isFace && (isFace || Modifier.isPrivate(f.getModifiers())));
        }
        fields(FourCubes.class);
        Check.yes("at most twelve classes", FourCubes.class.getDeclaredClasses().length < 12);
    }

    private static void inside(Class<?> c) {
        Check.yes(c + " is static", Modifier.isStatic(c.getModifiers()));
        Check.yes(c + " is not public", !Modifier.isPublic(c.getModifiers()) && !Modifier.isProtected(c.getModifiers()));
        Check.yes(c + " has no class inside", c.getDeclaredClasses().length == 0);
        fields(c);
        for (Method m : c.getDeclaredMethods()) {
            Check.yes(m + " has at most seven parameters", m.getParameterCount() <= 7);
            Check.yes(m + " is no lambda", !m.isSynthetic());
        }
    }

    private static void fields(Class<?> c) {
        int own = 0;
        for (Field f : c.getDeclaredFields()) {
            if (Modifier.isStatic(f.getModifiers())) {
                Class<?> type = f.getType();
                boolean plain = type == int.class || type == int[].class;
                Check.yes(f + " is a constant", Modifier.isFinal(f.getModifiers()) && plain);
            } else {
                own++;
            }
        }
        Check.yes(c + " has few fields", own <= 20);
    }

    private static void source(List<String> lines) {
        int begun = -1;
        boolean inConstructor = false;
        for (int k = 0; k < lines.size(); k++) {
            String line = lines.get(k).replaceAll("//.*", "").replaceAll("^\\s*(/\\*\\*|\\*).*", "");
            String where = "line " + (k + 1) + ": " + line;
            Check.yes(where, !line.matches(".*\\b(throw|throws|try|catch|synchronized|assert|package|enum|instanceof|yield|var)\\b.*"));
            Check.yes(where, !line.contains("->") && !line.contains("::") && !line.contains("\"") && !line.contains("@"));
            Check.yes(where, !line.contains("import") || line.equals("import java.util.Arrays;"));
            Check.yes(where, line.chars().allMatch(c -> c < 128));
            // No object is made but in a constructor or with a field.
            inConstructor |= line.equals("    public FourCubes() {");
            inConstructor &= !line.equals("    }");
            Check.yes(where, !line.matches(".*\\bnew\\b.*") || inConstructor || line.matches(".*private .* = new .*|.*final .* = new .*"));
            if (line.matches("    (    )?[a-z].*\\) \\{") && !line.matches(" *(if|for|while|switch|else).*")) {
                begun = k;
            }
            if (line.matches("    (    )?\\}") && begun >= 0) {
                Check.yes("method at line " + (begun + 1) + " is short", k - begun <= 60);
                begun = -1;
            }
        }
    }
}
