import java.io.IOException;
import java.lang.reflect.Constructor;
import java.lang.reflect.Field;
import java.lang.reflect.Method;
import java.lang.reflect.Modifier;
import java.nio.file.Files;
import java.nio.file.Path;
import java.util.Arrays;
import java.util.Set;
import java.util.TreeSet;
import java.util.regex.Matcher;
import java.util.regex.Pattern;

/** The public face, and those rules of the language that can be seen in the class and its file. */
public final class FaceTest {
    private static final String[] FACE = {
        "int set(int, int, int)", "int glass(int, int)", "int seal(int, int, int, int, int)", "long air(int, int)",
        "long right(int, int, int)", "int station(int, int, int, int)", "int tell(int, int, int, int)",
        "int gap(int, int)", "long reading(int, int, int)", "long rise(int, int, int)", "long between(int, int, int)",
        "int benches(int)", "int difference(int, int, int, int)", "int drop()", "long height(int, int)",
        "long off(int, int)", "int worst()", "long closing(int, int, int)", "long field(int, int, int)",
        "int low(int, int)", "int follow(int, int, int)", "int lines(int, int, int)", "int line(int, int, int, int)",
        "long drift(int, int)", "long mend(int)", "int told(int)"};
    private static final String[] FORBIDDEN = {"\\bthrow\\b", "\\bthrows\\b", "\\btry\\b", "\\bcatch\\b",
        "\\bsynchronized\\b", "\\bassert\\b", "->", "::", "\\bimport\\b", "\\bpackage\\b", "Exact\\s*\\(",
        "\\bequals\\b", "\\bhashCode\\b", "\\btoString\\b", "\\bSystem\\.(?!arraycopy)", "\\bwhile\\s*\\(\\s*true"};
    private static int wrong = 0;

    private static void check(boolean holds, String what) {
        if (!holds) {
            wrong++;
            System.out.println(what);
        }
    }

    public static void main(String[] args) throws IOException {
        checkFace();
        checkConstants();
        checkClass(GlassRoom.class);
        for (Class<?> inside : GlassRoom.class.getDeclaredClasses()) {
            check(Modifier.isStatic(inside.getModifiers()), inside + " is not static");
            check(!Modifier.isPublic(inside.getModifiers()), inside + " is public");
            checkClass(inside);
        }
        check(GlassRoom.class.getDeclaredClasses().length <= 12, "too many classes");
        checkText(Files.readString(Path.of("src/main/java/GlassRoom.java")));
        System.out.println(wrong == 0 ? "the face and the rules are kept" : wrong + " things are not as ruled");
        if (wrong != 0) {
            System.exit(1);
        }
    }

    private static void checkFace() {
        check(Modifier.isFinal(GlassRoom.class.getModifiers()), "the class is not final");
        check(Modifier.isPublic(GlassRoom.class.getModifiers()), "the class is not public");
        Set<String> want = new TreeSet<>(Arrays.asList(FACE));
        Set<String> got = new TreeSet<>();
        Set<String> names = new TreeSet<>();
        for (Method m : GlassRoom.class.getDeclaredMethods()) {
            if (!Modifier.isPrivate(m.getModifiers())) {
                String types = Arrays.toString(Arrays.stream(m.getParameterTypes()).map(Class::getName).toArray());
                got.add(m.getReturnType() + " " + m.getName() + "(" + types.substring(1, types.length() - 1) + ")");
                names.add(m.getName());
                boolean open = Modifier.isPublic(m.getModifiers()) && !Modifier.isStatic(m.getModifiers());
                check(open, m + " is not public");
            }
        }
        check(want.equals(got), "the face is " + got + ", due is " + want);
        for (Method m : GlassRoom.class.getDeclaredMethods()) {
            check(!Modifier.isPrivate(m.getModifiers()) || !names.contains(m.getName()), m + " bears a public name");
        }
        for (Class<?> inside : GlassRoom.class.getDeclaredClasses()) {
            for (Method m : inside.getDeclaredMethods()) {
                check(!names.contains(m.getName()), m + " bears a public name");
            }
        }
        Constructor<?>[] made = GlassRoom.class.getDeclaredConstructors();
        check(made.length == 1 && Modifier.isPublic(made[0].getModifiers()) && made[0].getParameterCount() == 0,
            "the constructor is not as told");
    }

    private static void checkConstants() {
        long[] got = {GlassRoom.UNKNOWN, GlassRoom.OUTSIDE, GlassRoom.STATE, GlassRoom.FULL, GlassRoom.NO,
            GlassRoom.NONE, GlassRoom.LOST};
        long[] want = {-1, -2, -3, -4, -5, -6, -1000000000000000000L};
        check(Arrays.equals(got, want), "the constants are " + Arrays.toString(got));
        int open = 0;
        for (Field f : GlassRoom.class.getDeclaredFields()) {
            if (!Modifier.isPrivate(f.getModifiers())) {
                open++;
            }
        }
        check(open == 7, open + " fields can be seen, due are 7");
    }

    private static void checkClass(Class<?> c) {
        int own = 0;
        for (Field f : c.getDeclaredFields()) {
            boolean isStatic = Modifier.isStatic(f.getModifiers());
            own += isStatic ? 0 : 1;
            Class<?> type = f.getType();
            boolean plain = type == int.class || type == long.class || type == boolean.class || type == char.class
                || type == String.class || type == int[].class || type == long[].class || type == char[].class
                || type == byte[].class;
            check(!isStatic || (Modifier.isFinal(f.getModifiers()) && plain), f + " is no constant");
        }
        check(own <= 20, c + " has " + own + " fields");
        for (Method m : c.getDeclaredMethods()) {
            check(m.getParameterCount() <= 7, m + " takes too much");
            check(!m.isSynthetic(), m + " comes of a lambda or an inner class");
        }
    }

    private static void checkText(String text) {
        for (char sign : text.toCharArray()) {
            check(sign < 128, "a sign past 127 in the file: " + (int) sign);
        }
        String bare = text.replaceAll("(?s)/\\*.*?\\*/", "").replaceAll("//[^\n]*", "");
        for (String rule : FORBIDDEN) {
            Matcher m = Pattern.compile(rule).matcher(bare);
            check(!m.find(), "the file has " + rule);
        }
        int start = 0;
        String[] lines = text.split("\n");
        for (int k = 0; k < lines.length; k++) {
            if (lines[k].matches("( {4}| {8})[a-zA-Z].*\\) \\{")) {
                start = k;
            }
            if (lines[k].matches("( {4}| {8})\\}") && start > 0) {
                check(k - start < 60, "a long method: " + lines[start]);
                start = 0;
            }
        }
    }
}
