import java.lang.reflect.Method;
import java.lang.reflect.Modifier;
import java.nio.file.Files;
import java.nio.file.Path;
import java.util.HashMap;
import java.util.Map;
import java.util.regex.Matcher;
import java.util.regex.Pattern;

/** "README.md says how to use the class": its calls, one behind the other, answer what it says. */
public final class ReadmeTest {
    private static final Pattern CALL = Pattern.compile("x\\.(\\w+)\\(([^/]*)\\);\\s*// (-?\\d+)(:.*)?");
    private static int wrong = 0;

    private static void must(boolean is, String what) {
        if (!is) {
            wrong++;
            System.out.println(what);
        }
    }

    public static void main(String[] args) throws Exception {
        String page = Files.readString(Path.of("README.md"));
        Map<String, Method> face = new HashMap<>();
        for (Method m : WhoeverKnowsSings.class.getDeclaredMethods()) {
            if (Modifier.isPublic(m.getModifiers())) {
                face.put(m.getName(), m);
                must(page.contains("`" + m.getName() + "`"), "README.md doesn't tell of " + m.getName());
            }
        }
        WhoeverKnowsSings x = new WhoeverKnowsSings();
        int calls = 0;
        for (String line : page.split("\n")) {
            if (line.startsWith("x.")) {
                calls++;
                call(x, face, line);
            }
        }
        must(calls > 30, "README.md has only " + calls + " calls");
        System.out.println(wrong == 0 ? "all " + calls + " calls of README.md answer what it says"
            : wrong + " things in README.md are not as due");
        if (wrong != 0) {
            System.exit(1);
        }
    }

    private static void call(WhoeverKnowsSings x, Map<String, Method> face, String line) throws Exception {
        Matcher told = CALL.matcher(line);
        if (!told.matches() || !face.containsKey(told.group(1))) {
            must(false, "README.md: no call with its answer: " + line);
            return;
        }
        String list = told.group(2);
        String[] parts = list.isEmpty() ? new String[0] : list.split(", ");
        Object[] numbers = new Object[parts.length];
        for (int i = 0; i < parts.length; i++) {
            numbers[i] = parts[i].startsWith("'") ? (int) parts[i].charAt(1) : Integer.parseInt(parts[i]);
        }
        long got = ((Number) face.get(told.group(1)).invoke(x, numbers)).longValue();
        must(got == Long.parseLong(told.group(3)), "README.md: " + line + " answered " + got);
    }
}
