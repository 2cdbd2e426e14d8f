import java.io.IOException;
import java.lang.reflect.Method;
import java.lang.reflect.Modifier;
import java.nio.file.Files;
import java.nio.file.Path;
import java.util.ArrayList;
import java.util.List;
import java.util.Set;
import java.util.TreeSet;
import java.util.regex.Matcher;
import java.util.regex.Pattern;
import java.util.stream.Stream;

/** README.md: every call on it answers what stands behind it, every call of the face and every test is named. */
public final class ReadmeTest {
    private static final String NEW_ROOM = "GlassRoom room = new GlassRoom();";
    private static final Pattern CALL = Pattern.compile("room\\.(\\w+)\\(([^)]*)\\);\\s*// ([^:]+)(:.*)?");
    private static final Set<String> CALLED = new TreeSet<>();
    private static int asked = 0;
    private static int wrong = 0;

    public static void main(String[] args) throws IOException, ReflectiveOperationException {
        String page = Files.readString(Path.of("README.md"));
        GlassRoom room = null;
        for (String line : javaLines(page)) {
            if (line.equals(NEW_ROOM)) {
                room = new GlassRoom();
            } else {
                checkLine(room, line);
            }
        }
        for (Method m : GlassRoom.class.getDeclaredMethods()) {
            check(!Modifier.isPublic(m.getModifiers()) || CALLED.contains(m.getName()), m + " is not shown");
        }
        check(page.contains(".ci/run"), "it does not say how to run the tests");
        try (Stream<Path> files = Files.list(Path.of("src/test/java"))) {
            files.forEach(file -> {
                String name = file.getFileName().toString().replace(".java", "");
                check(page.contains("`" + name + "`"), name + " is not named");
            });
        }
        System.out.println(wrong == 0 ? asked + " answers are as due" : wrong + " things are not as due");
        if (wrong != 0) {
            System.exit(1);
        }
    }

    private static void check(boolean holds, String what) {
        if (!holds) {
            wrong++;
            System.out.println("README.md: " + what);
        }
    }

    private static List<String> javaLines(String page) {
        List<String> lines = new ArrayList<>();
        boolean inside = false;
        for (String line : page.split("\n")) {
            if (line.startsWith("```")) {
                inside = line.equals("```java");
            } else if (inside) {
                lines.add(line);
            }
        }
        return lines;
    }

    private static void checkLine(GlassRoom room, String line) throws ReflectiveOperationException {
        Matcher m = CALL.matcher(line);
        if (room == null || !m.matches()) {
            check(false, "no call with its answer: " + line);
            return;
        }
        String[] words = m.group(2).isEmpty() ? new String[0] : m.group(2).split(", ");
        Object[] numbers = new Object[words.length];
        Class<?>[] types = new Class<?>[words.length];
        for (int k = 0; k < words.length; k++) {
            numbers[k] = Integer.valueOf(words[k]);
            types[k] = int.class;
        }
        Method call = GlassRoom.class.getMethod(m.group(1), types);
        long got = ((Number) call.invoke(room, numbers)).longValue();
        asked++;
        CALLED.add(call.getName());
        check(got == valueOf(m.group(3)), line + " - answered " + got);
    }

    /** A number, a constant's name, or several of them with " + " between. */
    private static long valueOf(String words) throws ReflectiveOperationException {
        long sum = 0;
        for (String word : words.trim().split(" \\+ ")) {
            sum += word.matches("-?\\d+") ? Long.parseLong(word)
                : ((Number) GlassRoom.class.getField(word).get(null)).longValue();
        }
        return sum;
    }
}
