import java.io.IOException;
import java.lang.reflect.Constructor;
import java.lang.reflect.Field;
import java.lang.reflect.Method;
import java.lang.reflect.Modifier;
import java.nio.file.Files;
import java.nio.file.Path;
import java.util.Arrays;
import java.util.Set;
import java.util.TreeSet;
import java.util.regex.Matcher;
import java.util.regex.Pattern;

/** The face stands as the document has it, and the source keeps the rules of LANGUAGE.md that a scan can see. */
public final class FaceTest {
    private static final String RANGE = "IllegalArgumentException";
    private static final String INDEX = "IndexOutOfBoundsException";
    private static final String TURN = "IllegalStateException";
    private static final String MEANING = "UnsupportedOperationException";

    private static final Set<String> FACE = new TreeSet<>(Arrays.asList(
            "void seed(long)",
            "int thing(int, int) " + RANGE + " " + MEANING,
            "int use(int, int) " + INDEX + " " + TURN + " " + RANGE,
            "int told(int, int) " + INDEX,
            "int left(int, int) " + INDEX + " " + RANGE,
            "void permit(int, boolean) " + INDEX + " " + MEANING,
            "int history(int, int) " + INDEX,
            "int gap(int, int) " + RANGE + " " + MEANING,
            "int person(int, int, int) " + RANGE + " " + MEANING,
            "int repair(int, int, int, int) " + INDEX + " " + RANGE + " " + MEANING,
            "void rules(int, int) " + RANGE,
            "int plan()",
            "int at(int, int) " + INDEX + " " + TURN,
            "int cost() " + TURN,
            "int done() " + TURN,
            "int spare(int, int) " + INDEX + " " + RANGE + " " + MEANING));

    private static final String[] FORBIDDEN = {
        "^\\s*import\\b", "^\\s*package\\b", "\\btry\\b", "\\bcatch\\b", "\\bfinally\\b", "->", "::", "\\bsynchronized\\b",
        "\\bassert\\b", "\\bSystem\\b", "\\bRandom\\b", "\\bThread\\b", "\\w+Exact\\b", "\\bMAX_VALUE\\b", "\\bMIN_VALUE\\b"};

    private static int wrong = 0;

    public static void main(String[] args) throws IOException {
        face();
        members();
        source();
        System.out.println(wrong == 0 ? "the face and the source are as due" : wrong + " faults");
        if (wrong != 0) {
            System.exit(1);
        }
    }

    private static void check(boolean holds, String fault) {
        if (!holds) {
            wrong++;
            System.out.println(fault);
        }
    }

    private static void face() {
        Set<String> found = new TreeSet<>();
        for (Method m : WearHours.class.getDeclaredMethods()) {
            if (Modifier.isPublic(m.getModifiers())) {
                found.add(told(m));
            }
        }
        check(found.equals(FACE), "public methods are " + found + ", due are " + FACE);
        int modifiers = WearHours.class.getModifiers();
        check(Modifier.isPublic(modifiers) && Modifier.isFinal(modifiers), "the class is not public and final");
        Constructor<?>[] made = WearHours.class.getDeclaredConstructors();
        check(made.length == 1 && Modifier.isPublic(made[0].getModifiers()) && made[0].getParameterCount() == 0,
                "the constructor is not the one of the document");
    }

    private static String told(Method m) {
        StringBuilder text = new StringBuilder(m.getReturnType().getName()).append(' ').append(m.getName()).append('(');
        for (int i = 0; i < m.getParameterCount(); i++) {
            text.append(i == 0 ? "" : ", ").append(m.getParameterTypes()[i].getName());
        }
        text.append(')');
        for (Class<?> thrown : m.getExceptionTypes()) {
            text.append(' ').append(thrown.getSimpleName());
        }
        return text.toString();
    }

    private static void members() {
        Set<String> publicNames = new TreeSet<>();
        for (Method m : WearHours.class.getDeclaredMethods()) {
            if (Modifier.isPublic(m.getModifiers())) {
                publicNames.add(m.getName());
            } else {
                check(Modifier.isPrivate(m.getModifiers()), m + " is neither of the face nor private");
            }
        }
        for (Field f : WearHours.class.getDeclaredFields()) {
            check(Modifier.isPrivate(f.getModifiers()), f + " is not private");
        }
        hiddenNames(WearHours.class, publicNames);
        for (Class<?> inside : WearHours.class.getDeclaredClasses()) {
            int modifiers = inside.getModifiers();
            check(Modifier.isStatic(modifiers) && !Modifier.isPublic(modifiers), inside + " is not a hidden static class");
            hiddenNames(inside, publicNames);
        }
        check(WearHours.class.getDeclaredClasses().length <= 12, "more than twelve classes");
    }

    private static void hiddenNames(Class<?> c, Set<String> publicNames) {
        for (Method m : c.getDeclaredMethods()) {
            check(Modifier.isPublic(m.getModifiers()) || !publicNames.contains(m.getName()), m + " has a public one's name");
            check(m.getParameterCount() <= 7, m + " has more than seven parameters");
        }
        int fields = 0;
        for (Field f : c.getDeclaredFields()) {
            boolean isStatic = Modifier.isStatic(f.getModifiers());
            check(!isStatic || Modifier.isFinal(f.getModifiers()), f + " is static, not final");
            fields += isStatic ? 0 : 1;
        }
        check(fields <= 20, c + " has more than twenty fields");
    }

    private static void source() throws IOException {
        int number = 0;
        for (String line : Files.readAllLines(Path.of("src/main/java/WearHours.java"))) {
            number++;
            String code = line.replaceAll("\"[^\"]*\"", "\"\"").replaceAll("//.*|^\\s*/?\\*.*", "");
            for (String word : FORBIDDEN) {
                Matcher found = Pattern.compile(word).matcher(code);
                check(!found.find(), "line " + number + " has what matches " + word);
            }
            check(line.chars().allMatch(c -> c >= ' ' && c < 127), "line " + number + " has a character beyond ASCII");
        }
        check(number > 0, "the source is empty");
    }
}
