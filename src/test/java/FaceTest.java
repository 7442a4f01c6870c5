import java.io.IOException;
import java.lang.reflect.Constructor;
import java.lang.reflect.Executable;
import java.lang.reflect.Field;
import java.lang.reflect.Method;
import java.lang.reflect.Modifier;
import java.nio.charset.StandardCharsets;
import java.nio.file.Files;
import java.nio.file.Path;
import java.util.Arrays;
import java.util.Set;
import java.util.TreeSet;
import java.util.stream.Collectors;

/** The public face, as the document tells it, and what can be seen from outside of the rules of LANGUAGE.md. */
public final class FaceTest {
    private static final Check check = new Check("FaceTest");
    private static final String BOUNDS = " throws IndexOutOfBoundsException";
    private static final String ILLEGAL = " throws IllegalArgumentException";
    private static final String STATE = " throws IllegalStateException";

    private static final String[] FACE = {
        "int pupil(int, int, boolean)" + ILLEGAL + ", IllegalStateException",
        "int gift(int, int)" + BOUNDS + ", IllegalArgumentException",
        "int type(int)" + ILLEGAL + ", IllegalStateException",
        "int scheme(int)" + BOUNDS + ", IllegalStateException",
        "boolean twice(int, boolean)" + BOUNDS,
        "int tolerance(int)" + ILLEGAL,
        "int reader(int, int, boolean)" + ILLEGAL + ", IllegalStateException",
        "int seed(int, int)" + BOUNDS + ", IllegalArgumentException, IllegalStateException",
        "int next(int)" + BOUNDS + ", IllegalStateException",
        "int read(int, int)" + BOUNDS + ", IllegalArgumentException, IllegalStateException",
        "int goOn(int)" + BOUNDS + ", IllegalStateException",
        "int lines(int, int, int)" + ILLEGAL + ", IllegalStateException",
        "int release()" + STATE,
        "int appeal(int, int)" + BOUNDS + ", IllegalStateException",
        "int versions(int)" + BOUNDS,
        "int markOf(int, int, int)" + BOUNDS + ", IllegalArgumentException",
        "char written(int, int, int)" + BOUNDS,
        "int mark(int, int)" + BOUNDS,
        "int markAnew(int, int)" + BOUNDS,
        "int answer(int, int, int)" + BOUNDS + ", IllegalArgumentException",
        "int total(int)" + BOUNDS,
        "int grade(int, boolean)" + BOUNDS,
        "int changed()",
        "int lineOf(int)" + ILLEGAL,
        "int lineAnew(int)" + ILLEGAL,
        "int ofReader(int, int)" + BOUNDS + ", IllegalArgumentException",
        "int wanted()",
    };

    public static void main(String[] args) throws IOException {
        face();
        members();
        text(Files.readString(Path.of("src/main/java/ScriptRoom.java"), StandardCharsets.ISO_8859_1));
        check.end();
    }

    private static String names(Class<?>[] types) {
        return Arrays.stream(types).map(Class::getSimpleName).collect(Collectors.joining(", "));
    }

    private static String told(Method m) {
        String thrown = names(m.getExceptionTypes());
        return m.getReturnType().getSimpleName() + " " + m.getName() + "(" + names(m.getParameterTypes()) + ")"
            + (thrown.isEmpty() ? "" : " throws " + thrown);
    }

    private static void face() {
        Set<String> got = new TreeSet<>();
        for (Method m : ScriptRoom.class.getDeclaredMethods()) {
            if (Modifier.isPublic(m.getModifiers())) got.add(told(m));
        }
        check.same("the methods", String.join("\n", got), String.join("\n", new TreeSet<>(Arrays.asList(FACE))));
        int mods = ScriptRoom.class.getModifiers();
        check.same("public and final", Modifier.isPublic(mods) && Modifier.isFinal(mods), true);
        Constructor<?>[] constructors = ScriptRoom.class.getDeclaredConstructors();
        check.same("one constructor", constructors.length, 1);
        check.same("it is public, takes nothing, throws nothing", constructors[0].toString(), "public ScriptRoom()");
    }

    private static void members() {
        Set<String> publicNames = new TreeSet<>();
        for (Method m : ScriptRoom.class.getDeclaredMethods()) {
            if (Modifier.isPublic(m.getModifiers())) publicNames.add(m.getName());
        }
        for (Method m : ScriptRoom.class.getDeclaredMethods()) hidden(m, publicNames);
        for (Field f : ScriptRoom.class.getDeclaredFields()) {
            boolean isConstant = f.getName().equals("NONE");
            String due = isConstant ? "public static final" : "private";
            check.same("rule 1: field " + f.getName(), Modifier.toString(f.getModifiers()).startsWith(due), true);
        }
        Class<?>[] inside = ScriptRoom.class.getDeclaredClasses();
        check.same("rule 11: some twelve classes", inside.length <= 12, true);
        for (Class<?> c : inside) {
            int mods = c.getModifiers();
            boolean isHidden = !Modifier.isPublic(mods) && !Modifier.isProtected(mods);
            check.same("rule 1: class " + c.getName(), isHidden && Modifier.isStatic(mods), true);
            for (Method m : c.getDeclaredMethods()) hidden(m, publicNames);
            for (Field f : c.getDeclaredFields()) staticIsFinal(f);
        }
    }

    private static void hidden(Method m, Set<String> publicNames) {
        if (m.getDeclaringClass() == ScriptRoom.class && Modifier.isPublic(m.getModifiers())) return;
        boolean isPrivate = m.getDeclaringClass() != ScriptRoom.class || Modifier.isPrivate(m.getModifiers());
        check.same("rule 1: method " + m, isPrivate && !publicNames.contains(m.getName()), true);
        check.same("rule 11: at most seven parameters, " + m, ((Executable) m).getParameterCount() <= 7, true);
    }

    private static void staticIsFinal(Field f) {
        if (Modifier.isStatic(f.getModifiers())) check.same("rule 5: " + f, Modifier.isFinal(f.getModifiers()), true);
    }

    private static void text(String source) {
        for (char sign : source.toCharArray()) {
            if (sign != '\n' && (sign < 32 || sign > 126)) check.fail("rule 3: the sign " + (int) sign);
        }
        String code = source.replaceAll("(?s)/\\*.*?\\*/", "").replaceAll("//[^\n]*", "");
        String[] ruledOut = {
            "import ", "package ", "->", "::", "synchronized", "assert ", "finally", "catch", "Exact", "System.", "native ",
            "Thread", "Random", "currentTimeMillis", "nanoTime", "hashCode", "toString", "\"", "while (true)", "for (;;)"
        };
        for (String word : ruledOut) check.same("LANGUAGE.md: " + word, code.contains(word), false);
        // One class alone has arrays, and looks at each place.
        int row = code.indexOf("class Row");
        String others = code.substring(0, row) + code.substring(code.indexOf("class Line"));
        check.same("arrays are in rows alone", others.contains("["), false);
        lengths(code);
    }

    private static void lengths(String code) {
        int from = -1;
        String[] lines = code.split("\n");
        for (int i = 0; i < lines.length; i++) {
            if (lines[i].matches(" {4,8}[a-zA-Z].*\\) .*\\{")) from = i;
            if (lines[i].matches(" {4,8}\\}") && from >= 0) {
                check.same("rule 11: the length of " + lines[from].trim(), i - from <= 60, true);
                from = -1;
            }
        }
    }
}
