import java.lang.reflect.Constructor;
import java.lang.reflect.Field;
import java.lang.reflect.Method;
import java.lang.reflect.Modifier;
import java.nio.charset.StandardCharsets;
import java.nio.file.Files;
import java.nio.file.Path;
import java.util.Arrays;
import java.util.List;
import java.util.TreeSet;

/** What can be seen from outside of LANGUAGE.md: the face, and what the source mustn't hold. */
public final class RulesTest {
    private static final String[] FACE = {
        "int feed(int,int,int,int,int)", "int text(int)", "int fault(int)", "int named(int)", "int man(int,int)",
        "int june(int,int)", "int lenders(int)", "int recall(int)", "long law(int,int)", "boolean light(int,int)",
        "boolean blow(int,int)", "int cut(int,int,int)", "int go(int)", "int ahead(int,int,int)", "int ends(int)",
        "int alike(int,int)", "int keepInch(int,int)", "long times(int,int)", "int lightings(int,int,int)",
        "int cover()", "int last(int)", "int match(int)", "int game(int,int)", "int rests(int,int)",
        "int rest(int,int,int)", "long calm(int,int)", "int see(int,int,int,boolean)", "int strike(int)",
        "boolean known(int)", "int lengths(int)", "int ask(int,int)", "int chance(int,int,int,int)",
        "int tried(int,int,int)", "int undo()", "int keep()", "int back()", "int count(int)"
    };

    public static void main(String[] args) throws Exception {
        face();
        source();
        Check.finish();
    }

    private static void face() {
        Class<BurntEnds> c = BurntEnds.class;
        Check.due("final", Modifier.isFinal(c.getModifiers()), true);
        TreeSet<String> want = new TreeSet<>(Arrays.asList(FACE));
        TreeSet<String> names = new TreeSet<>();
        for (String call : FACE) {
            names.add(call.substring(call.indexOf(' ') + 1, call.indexOf('(')));
        }
        TreeSet<String> got = new TreeSet<>();
        for (Method m : c.getDeclaredMethods()) {
            if (Modifier.isPublic(m.getModifiers())) {
                StringBuilder types = new StringBuilder();
                for (Class<?> type : m.getParameterTypes()) {
                    types.append(types.length() == 0 ? "" : ",").append(type.getName());
                }
                got.add(m.getReturnType().getName() + " " + m.getName() + "(" + types + ")");
            } else {
                Check.due(m + " is private", Modifier.isPrivate(m.getModifiers()), true);
                Check.due(m + " bears a public name", names.contains(m.getName()), false);
            }
        }
        Check.due("the face is " + got, got.equals(want), true);
        for (Field f : c.getDeclaredFields()) {
            boolean isNone = f.getName().equals("NONE");
            Check.due(f + " is private", Modifier.isPrivate(f.getModifiers()), !isNone);
            finalIfStatic(f);
        }
        Constructor<?>[] all = c.getDeclaredConstructors();
        Check.due("one constructor", all.length, 1);
        Check.due("public", Modifier.isPublic(all[0].getModifiers()), true);
        Check.due("classes inside", c.getDeclaredClasses().length <= 12, true);
        for (Class<?> inner : c.getDeclaredClasses()) {
            Check.due(inner + " is private and static",
                Modifier.isPrivate(inner.getModifiers()) && Modifier.isStatic(inner.getModifiers()), true);
            for (Field f : inner.getDeclaredFields()) {
                finalIfStatic(f);
            }
            for (Method m : inner.getDeclaredMethods()) {
                Check.due(m + " bears a public name", names.contains(m.getName()), false);
                Check.due(m + " takes seven at most", m.getParameterCount() <= 7, true);
            }
        }
    }

    private static void finalIfStatic(Field f) {
        if (Modifier.isStatic(f.getModifiers())) {
            Check.due(f + " is final", Modifier.isFinal(f.getModifiers()), true);
        }
    }

    private static void source() throws Exception {
        String text = Files.readString(Path.of("src/main/java/BurntEnds.java"), StandardCharsets.ISO_8859_1);
        String[] banned = {
            "->", "::", "package ", "finally", "synchronized", "assert ", "catch", "hashCode", "equals(", "System.out",
            "Exact(", "static {", "System.nano", "System.current", "Random", "@", "\" +", "+ \"", "<>", "instanceof",
            "Iterator", "getMessage", "double", "float"
        };
        for (String word : banned) {
            Check.due("'" + word + "' in the source", text.contains(word), false);
        }
        for (int k = 0; k < text.length(); k++) {
            if (text.charAt(k) > 126) {
                Check.due("a sign above 126 at " + k, text.charAt(k), 126);
            }
        }
        List<String> lines = Arrays.asList(text.split("\n"));
        for (String line : lines) {
            boolean known = !line.startsWith("import ") || line.equals("import java.util.Arrays;")
                || line.equals("import java.util.NoSuchElementException;");
            Check.due(line, known, true);
        }
        methodsAreShort(lines);
    }

    private static void methodsAreShort(List<String> lines) {
        for (String indent : new String[] {"    ", "        "}) {
            int start = -1;
            for (int k = 0; k < lines.size(); k++) {
                String line = lines.get(k);
                if (line.matches(indent + "[a-z].*\\) (throws .*)?\\{") && !line.contains(" class ")) {
                    start = k;
                } else if (line.equals(indent + "}") && start >= 0) {
                    Check.due("lines of " + lines.get(start).trim(), k - start <= 60, true);
                    start = -1;
                }
            }
        }
    }
}
