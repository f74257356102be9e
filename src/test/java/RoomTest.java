import java.lang.management.ManagementFactory;
import java.lang.reflect.Field;
import java.lang.reflect.Method;
import java.lang.reflect.Modifier;
import java.nio.file.Files;
import java.nio.file.Path;
import java.util.ArrayList;
import java.util.HashSet;
import java.util.List;
import java.util.Random;
import java.util.Set;

/** What a run makes in memory, that no call throws, and the rules of LANGUAGE.md seen by words. */
public final class RoomTest {
    private static final String SOURCE = "src/main/java/WhoeverKnowsSings.java";
    private static int wrong = 0;

    private static void must(boolean is, String what) {
        if (!is) {
            wrong++;
            System.out.println(what);
        }
    }

    public static void main(String[] args) throws Exception {
        room();
        anyNumbers();
        stored();
        face();
        table();
        words();
        System.out.println(wrong == 0 ? "all is as due" : wrong + " things are not as due");
        if (wrong != 0) {
            System.exit(1);
        }
    }

    private static long made() {
        return ((com.sun.management.ThreadMXBean) ManagementFactory.getThreadMXBean())
            .getThreadAllocatedBytes(Thread.currentThread().getId());
    }

    private static WhoeverKnowsSings village() {
        WhoeverKnowsSings x = new WhoeverKnowsSings();
        for (int s = 0; s < 6; s++) {
            x.song(-1);
            if (s < 5) {
                x.person(4, 50, 0);
            }
            x.teach(0, s, 2);
        }
        x.sheet(0, 2, 5);
        return x;
    }

    /** All asking calls of one object together; the dearest there are. */
    private static long ask(WhoeverKnowsSings x) {
        long sum = 0;
        for (int i = 0; i < 12; i++) {
            sum += x.evening(i % 6, i % 4, 0);
        }
        for (int i = 0; i < 20; i++) {
            sum += x.whole(0, 31) + x.why(0, 0, 31, 2) + x.place(0, 31, 0) + x.least(0, 0, 31, 0, 1);
            sum += x.odds(450, i, 0, 30, 0) + x.drawn(i, 0, 30, 0) + x.judge() + x.laws();
            sum += x.was(0, 0, 0, 0) + x.leave(0, 0, 31) + x.ends(0, 0) + x.keep(0, 0);
            sum += x.knows(12, 0, 0) + x.all(12, 0, 0) + x.image() + x.back() + x.rarest();
            sum += x.sheet(1, 1, 40) + x.copy(0, 0, 0, 1, 4) + x.peopleBy(0, 2, 0, 1);
        }
        return sum;
    }

    private static void room() {
        ask(village());
        long before = made();
        WhoeverKnowsSings x = village();
        long between = made();
        ask(x);
        long behind = made();
        must(between - before < 40_000, "an object takes " + (between - before) + " bytes");
        must(behind - between < 1_000, "calls take " + (behind - between) + " bytes");
    }

    /** Numbers from all over: no call may throw. */
    private static void anyNumbers() throws Exception {
        Random random = new Random(99);
        for (int run = 0; run < 300; run++) {
            callAll(run % 2 == 0 ? village() : new WhoeverKnowsSings(), random);
        }
    }

    private static void callAll(WhoeverKnowsSings x, Random random) throws Exception {
        int[] edges = {Integer.MIN_VALUE, Integer.MAX_VALUE, -100, -2, -1, 0, 1, 2, 3, 4, 5, 6, 7, 10, 11,
            12, 31, 32, 40, 41, 100, 101, 255, 256, 999, 1000, 99999, 100000, Integer.MAX_VALUE - 1};
        List<Method> methods = new ArrayList<>();
        for (Method m : WhoeverKnowsSings.class.getDeclaredMethods()) {
            if (Modifier.isPublic(m.getModifiers())) {
                methods.add(m);
            }
        }
        for (int i = 0; i < 480; i++) {
            Method m = methods.get(random.nextInt(methods.size()));
            Object[] a = new Object[m.getParameterCount()];
            for (int k = 0; k < a.length; k++) {
                a[k] = random.nextInt(3) == 0 ? edges[random.nextInt(edges.length)] : random.nextInt(6);
            }
            m.invoke(x, a);
        }
    }

    /**
     * LANGUAGE.md, 7: "an index is looked at before it is used": numbers that the object keeps, too.
     * No run of calls makes them so; they are put there past the calls.
     */
    private static void stored() throws Exception {
        Random random = new Random(7);
        for (int run = 0; run < 20; run++) {
            for (int law : new int[] {-1, 6, 7}) {
                callAll(with("law", law), random);
            }
            callAll(with("songCount", 7), random);
            callAll(with("textCount", 7), random);
            callAll(with("eveningCount", 13), random);
            WhoeverKnowsSings x = village();
            Object people = field(x.getClass(), "people").get(x);
            field(people.getClass(), "size").setInt(people, 6);
            callAll(x, random);
            for (int at = 0; at < 2; at++) {
                for (int number : new int[] {-1, 6, 7}) {
                    WhoeverKnowsSings y = village();
                    y.evening(0, 0, 0);
                    ((int[][]) field(y.getClass(), "evenings").get(y))[0][at] = number;
                    callAll(y, random);
                }
            }
        }
    }

    private static WhoeverKnowsSings with(String name, int number) throws Exception {
        WhoeverKnowsSings x = village();
        field(x.getClass(), name).setInt(x, number);
        return x;
    }

    private static Field field(Class<?> of, String name) throws Exception {
        Field field = of.getDeclaredField(name);
        field.setAccessible(true);
        return field;
    }

    private static void face() {
        Set<String> names = new HashSet<>();
        for (Method m : WhoeverKnowsSings.class.getDeclaredMethods()) {
            if (Modifier.isPublic(m.getModifiers())) {
                names.add(m.getName());
            } else {
                must(Modifier.isPrivate(m.getModifiers()) || m.isSynthetic(), m + " is not private");
            }
        }
        must(names.size() == 40, "public methods: " + names.size());
        List<Class<?>> classes = new ArrayList<>(List.of(WhoeverKnowsSings.class.getDeclaredClasses()));
        must(classes.size() < 12, "classes inside: " + classes.size());
        classes.add(WhoeverKnowsSings.class);
        for (Class<?> c : classes) {
            must(Modifier.isStatic(c.getModifiers()) || c == WhoeverKnowsSings.class, c + " isn't static");
            for (Method m : c.getDeclaredMethods()) {
                boolean isFace = Modifier.isPublic(m.getModifiers());
                must(isFace || !names.contains(m.getName()), m + " bears a public name");
                must(m.getParameterCount() <= 7, m + " takes too many");
            }
        }
    }

    /** A wrong number in this table shows in few plans only, so it is looked at itself. */
    private static void table() throws Exception {
        int[] inThrees = (int[]) field(WhoeverKnowsSings.class, "IN_THREES").get(null);
        must(inThrees.length == 32, "IN_THREES has " + inThrees.length);
        for (int i = 0; i < inThrees.length; i++) {
            must(inThrees[i] == Integer.parseInt(Integer.toBinaryString(i), 3), "IN_THREES at " + i);
        }
    }

    private static void words() throws Exception {
        String source = Files.readString(Path.of(SOURCE));
        String code = source.replaceAll("(?s)/\\*.*?\\*/", " ").replaceAll("//[^\n]*", " ")
            .replaceAll("\"[^\"\n]*\"", "\"\"");
        String[] ruledOut = {"\\bthrow\\b", "\\btry\\b", "\\bcatch\\b", "\\bassert\\b", "\\bsynchronized\\b",
            "->", "::", "Exact\\(", "\\bSystem\\.(?!arraycopy)", "\\bpackage\\b", "\\bequals\\(",
            "\\bhashCode\\b", "\\btoString\\b", "\\bprotected\\b", "\\bRandom\\b", "\\bstatic \\{"};
        for (String word : ruledOut) {
            must(!java.util.regex.Pattern.compile(word).matcher(code).find(), word + " is ruled out");
        }
        int imports = code.split("\\bimport\\b", -1).length - 1;
        must(imports == 1 && code.contains("import java.util.Arrays;"), "imports: " + imports);
        must(source.chars().allMatch(c -> c < 128), "a sign outside 1 to 127");
        int start = 0;
        String[] lines = source.split("\n");
        for (int i = 0; i < lines.length; i++) {
            must(lines[i].length() <= 100, "line " + (i + 1) + " is long");
            if (lines[i].matches(" {4,8}(public|private|[a-z]\\S*) .*\\) \\{")) {
                start = i;
            }
            if (lines[i].matches(" {4,8}}") && i - start > 60) {
                must(lines[start].contains("class"), "a long method at line " + (start + 1));
            }
        }
    }
}
