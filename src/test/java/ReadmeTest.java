import java.io.IOException;
import java.lang.reflect.Method;
import java.lang.reflect.Modifier;
import java.nio.file.Files;
import java.nio.file.Path;
import java.util.ArrayList;
import java.util.HashMap;
import java.util.List;
import java.util.Map;
import java.util.Set;
import java.util.TreeMap;
import java.util.TreeSet;
import java.util.regex.Matcher;
import java.util.regex.Pattern;
import java.util.stream.Collectors;
import java.util.stream.Stream;

/** What README.md says holds: its calls answer as it says, its tables are the face's, its list of tests is whole. */
public final class ReadmeTest {
    private static final Pattern CALL = Pattern.compile("(?:int (\\w+) = )?w\\.(\\w+)\\((.*?)\\);\\s*// (\\S+).*");
    private static final Pattern ROW = Pattern.compile("\\| `(\\w+)\\((.*?)\\)` \\|(.*)\\|(.*)\\|(.*)\\|");
    private static final Pattern TEST = Pattern.compile("- `(src/test/java/\\w+\\.java)`.*");
    private static final Map<String, String> WORDS = Map.of("IndexOutOfBoundsException", "index",
            "IllegalStateException", "turn", "IllegalArgumentException", "range", "UnsupportedOperationException", "meaning");

    private static final Calls calls = new Calls();

    public static void main(String[] args) throws IOException {
        List<String> lines = Files.readAllLines(Path.of("README.md"));
        example(lines);
        callsTable(lines);
        refusalsTable(lines);
        tests(lines);
        calls.end();
    }

    private static List<Matcher> matching(Pattern form, List<String> lines) {
        List<Matcher> found = new ArrayList<>();
        for (String line : lines) {
            Matcher m = form.matcher(line);
            if (m.matches()) {
                found.add(m);
            }
        }
        return found;
    }

    private static void example(List<String> lines) {
        WearHours w = new WearHours();
        Map<String, String> names = new HashMap<>();
        Set<String> called = new TreeSet<>();
        long told = lines.stream().filter(line -> line.contains(" w.") || line.startsWith("w.")).count();
        List<Matcher> found = matching(CALL, lines);
        calls.due("README's example", "its calls", "" + found.size(), "" + told);
        for (Matcher m : found) {
            StringBuilder call = new StringBuilder(m.group(2));
            for (String word : m.group(3).split(", *")) {
                if (!word.isEmpty()) call.append(' ').append(names.getOrDefault(word, word));
            }
            String got = Calls.answer(w, call.toString());
            calls.due("README's example", m.group(), got, due(m.group(4)));
            if (m.group(1) != null) names.put(m.group(1), got);
            called.add(m.group(2));
        }
        calls.due("README's example", "what it calls", "" + called, "" + face().keySet());
    }

    // The comment of a call begins with its answer, or with what it throws; one without an answer has any text.
    private static String due(String word) {
        String bare = word.replace(":", "");
        if (WORDS.containsKey(bare)) return WORDS.get(bare);
        return bare.matches("-?\\d+") ? bare : "ok";
    }

    private static Map<String, Method> face() {
        Map<String, Method> found = new TreeMap<>();
        for (Method m : WearHours.class.getDeclaredMethods()) {
            if (Modifier.isPublic(m.getModifiers())) found.put(m.getName(), m);
        }
        return found;
    }

    private static void callsTable(List<String> lines) {
        Map<String, Method> face = face();
        Set<String> rows = new TreeSet<>();
        for (Matcher m : matching(ROW, lines)) {
            Method due = face.get(m.group(1));
            rows.add(m.group(1));
            if (due == null) continue;
            int parameters = m.group(2).isEmpty() ? 0 : m.group(2).split(",").length;
            calls.due("README's calls", m.group(1), "" + parameters, "" + due.getParameterCount());
            Set<String> thrown = new TreeSet<>();
            for (Class<?> c : due.getExceptionTypes()) thrown.add(WORDS.get(c.getSimpleName()));
            Set<String> said = new TreeSet<>();
            for (String word : WORDS.values()) {
                if (m.group(5).matches(".*\\b" + word + "\\b.*")) said.add(word);
            }
            calls.due("README's refusals", m.group(1), "" + said, "" + thrown);
        }
        calls.due("README's calls", "the rows", "" + rows, "" + face.keySet());
    }

    private static void refusalsTable(List<String> lines) {
        List<String> order = new ArrayList<>();
        for (String line : lines) {
            for (Map.Entry<String, String> e : WORDS.entrySet()) {
                if (line.startsWith("| " + e.getValue() + " |") && line.endsWith("| " + e.getKey() + " |")) {
                    order.add(e.getValue());
                }
            }
        }
        calls.due("README's refusals", "their order", "" + order, "[index, turn, range, meaning]");
    }

    private static void tests(List<String> lines) throws IOException {
        Set<String> said = matching(TEST, lines).stream().map(m -> m.group(1)).collect(Collectors.toCollection(TreeSet::new));
        try (Stream<Path> files = Files.list(Path.of("src/test/java"))) {
            Set<String> there = files.map(Path::toString).filter(name -> name.endsWith(".java"))
                    .collect(Collectors.toCollection(TreeSet::new));
            calls.due("README's tests", "the list", "" + said, "" + there);
        }
    }
}
