import java.lang.reflect.Method;
import java.lang.reflect.Modifier;
import java.nio.file.Files;
import java.nio.file.Path;
import java.util.List;
import java.util.Set;
import java.util.TreeSet;
import java.util.regex.Matcher;
import java.util.regex.Pattern;
import java.util.stream.Collectors;
import java.util.stream.Stream;

/** README.md is held against what stands: its examples' answers, its rows of calls and of tests. */
public final class ReadmeTest {
    private static final Due DUE = new Due();
    private static final Pattern TEXT = Pattern.compile("String text = \"([^\"]*)\";");
    private static final Pattern CALL = Pattern.compile("x\\.(\\w+)\\(([^)]*)\\);\\s*// (-?\\w+): .*");
    private static final Pattern CALL_ROW = Pattern.compile("\\| `(\\w+)\\(([^)]*)\\)` \\|[^|]*\\|([^|]*)\\|");
    private static final Pattern TEST_ROW = Pattern.compile("\\| (\\w+Test) \\|.*");
    private static final String FEEDING = "for (int i = 0; i < text.length(); i++) x.feed(text.charAt(i));";

    private static LastLaugh x;
    private static String text = "";

    public static void main(String[] args) throws Exception {
        List<String> lines = Files.readAllLines(Path.of("README.md"));
        examples(lines);
        rowsOfCalls(lines);
        rowsOfTests(lines);
        DUE.holds("it says how to run the tests", lines.contains("    .ci/run"));
        DUE.end("ReadmeTest");
    }

    private static void examples(List<String> lines) throws Exception {
        boolean inside = false;
        Set<String> shown = new TreeSet<>();
        for (String line : lines) {
            if (line.startsWith("```")) inside = line.equals("```java");
            else if (inside && !line.isEmpty()) shown.add(example(line));
        }
        Set<String> all = namesOfFace();
        all.removeAll(shown);
        all.remove("feed");
        DUE.holds("every call is shown in an example, but for " + all, all.isEmpty());
    }

    /** Does what a line of an example says: the name of the call whose answer was held, or "". */
    private static String example(String line) throws Exception {
        Matcher said = TEXT.matcher(line);
        Matcher call = CALL.matcher(line);
        if (line.equals("LastLaugh x = new LastLaugh();")) {
            x = new LastLaugh();
        } else if (said.matches()) {
            text = said.group(1);
        } else if (line.equals(FEEDING)) {
            Due.feed(x, text);
        } else if (call.matches()) {
            DUE.is(line, answer(call.group(1), call.group(2)), number(call.group(3)));
            return call.group(1);
        } else {
            DUE.holds("a line of an example that this test can follow: " + line, false);
        }
        return "";
    }

    private static int answer(String name, String given) throws Exception {
        String[] words = given.isEmpty() ? new String[0] : given.split(", ");
        Object[] values = new Object[words.length];
        for (int i = 0; i < words.length; i++) {
            boolean truth = words[i].equals("true") || words[i].equals("false");
            if (truth) values[i] = words[i].equals("true");
            else values[i] = number(words[i]);
        }
        for (Method m : LastLaugh.class.getMethods()) {
            if (m.getName().equals(name) && m.getDeclaringClass() == LastLaugh.class) return (int) m.invoke(x, values);
        }
        throw new IllegalStateException("no such call: " + name);
    }

    private static int number(String word) throws Exception {
        return Character.isLetter(word.charAt(0)) ? LastLaugh.class.getField(word).getInt(null) : Integer.parseInt(word);
    }

    private static Set<String> namesOfFace() {
        Set<String> names = new TreeSet<>();
        for (Method m : LastLaugh.class.getDeclaredMethods()) if (Modifier.isPublic(m.getModifiers())) names.add(m.getName());
        return names;
    }

    private static void rowsOfCalls(List<String> lines) throws Exception {
        Set<String> named = new TreeSet<>();
        for (String line : lines) {
            Matcher row = CALL_ROW.matcher(line);
            if (!row.matches()) continue;
            named.add(row.group(1));
            int given = row.group(2).isEmpty() ? 0 : row.group(2).split(", ").length;
            for (Method m : LastLaugh.class.getDeclaredMethods()) {
                if (m.getName().equals(row.group(1))) DUE.is("what is given to " + row.group(1), given, m.getParameterCount());
            }
            int before = 0;
            for (String refusal : row.group(3).trim().split(", ")) {
                if (refusal.isEmpty()) continue;
                DUE.holds(row.group(1) + "'s refusals stand in their order", before > number(refusal));
                before = number(refusal);
            }
        }
        DUE.holds("the rows name just the calls of the face: " + named, named.equals(namesOfFace()));
    }

    private static void rowsOfTests(List<String> lines) throws Exception {
        Set<String> named = new TreeSet<>();
        for (String line : lines) {
            Matcher row = TEST_ROW.matcher(line);
            if (row.matches()) named.add(row.group(1) + ".java");
        }
        try (Stream<Path> files = Files.list(Path.of("src/test/java"))) {
            Set<String> there = files.map(f -> f.getFileName().toString()).filter(f -> f.endsWith("Test.java")).collect(Collectors.toSet());
            DUE.holds("the rows name just the tests there are: " + named, named.equals(there));
        }
    }
}
