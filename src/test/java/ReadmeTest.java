import java.lang.reflect.Method;
import java.nio.charset.StandardCharsets;
import java.nio.file.Files;
import java.nio.file.Path;
import java.util.regex.Matcher;
import java.util.regex.Pattern;

/** README.md: its example answers what it says there, and no call of the face is left out. */
public final class ReadmeTest {
    private static final Pattern CALL = Pattern.compile("x\\.(\\w+)\\(([^)]*)\\);\\s*// (\\S+)");

    public static void main(String[] args) throws Exception {
        String text = Files.readString(Path.of("README.md"), StandardCharsets.UTF_8);
        example(text);
        for (Method call : BurntEnds.class.getDeclaredMethods()) {
            boolean isOf = java.lang.reflect.Modifier.isPublic(call.getModifiers());
            Check.due(call.getName() + " in README.md", !isOf || text.contains("`" + call.getName() + "`"), true);
        }
        Check.finish();
    }

    private static void example(String text) throws Exception {
        BurntEnds x = new BurntEnds();
        int calls = 0;
        Matcher m = CALL.matcher(text);
        while (m.find()) {
            String[] words = m.group(2).isEmpty() ? new String[0] : m.group(2).split(", ");
            Class<?>[] types = new Class<?>[words.length];
            Object[] values = new Object[words.length];
            for (int k = 0; k < words.length; k++) {
                types[k] = int.class;
                values[k] = Long.decode(words[k]).intValue();
            }
            Object answer = BurntEnds.class.getMethod(m.group(1), types).invoke(x, values);
            Check.due(m.group() + " answers " + answer, answer.toString().equals(m.group(3)), true);
            calls++;
        }
        Check.due("calls of the example", calls, 17);
    }
}
