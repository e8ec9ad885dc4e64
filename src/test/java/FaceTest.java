import java.lang.reflect.Constructor;
import java.lang.reflect.Field;
import java.lang.reflect.Method;
import java.lang.reflect.Modifier;
import java.nio.file.Files;
import java.nio.file.Path;
import java.util.Set;
import java.util.TreeSet;
import java.util.regex.Matcher;
import java.util.regex.Pattern;

/** The public face is the document's, and the source keeps to what can be seen of LANGUAGE.md in its text. */
public final class FaceTest {
    private static final Due DUE = new Due();
    private static final String[] FACE = {
        "alone(int, int)", "cover(int)", "draws(int)", "drift(int)", "duel(int, int, int, int)", "falls(int, int, int)",
        "fault()", "feed(int)", "goBack(int)", "hall()", "joke(int, int)", "judge()", "keep(int)", "lord(int, int)",
        "night(int)", "sads(int, int)", "safe()", "see(int, int, boolean)", "seed(int)", "sure(int, int)", "tastes(int)",
        "tear()", "tell(int, int, int)", "told(int)", "toldBy(int, int, int)", "undo(int)", "wired(int)", "write(int, int)"};

    /** The document's headings, each with the calls that it stands ahead of. */
    private static final String[] HEADINGS = {
        "the hall: feed, hall, fault, told, lord, joke", "tellings: tell, night, drift, undo",
        "tried: falls, alone, duel, safe, draws, cover, toldBy, sure, wired",
        "what was seen: see, tastes, sads, write, judge, tear", "images: seed, keep, goBack"};

    public static void main(String[] args) throws Exception {
        constants();
        members();
        source(Files.readString(Path.of(args.length > 0 ? args[0] : "src/main/java/LastLaugh.java")));
        DUE.end("FaceTest");
    }

    private static void constants() {
        DUE.is("NONE", LastLaugh.NONE, -1);
        DUE.is("UNKNOWN", LastLaugh.UNKNOWN, -1000000001);
        DUE.is("OUTSIDE", LastLaugh.OUTSIDE, -1000000002);
        DUE.is("NOT", LastLaugh.NOT, -1000000003);
        DUE.is("FULL", LastLaugh.FULL, -1000000004);
    }

    private static void members() {
        Class<?> c = LastLaugh.class;
        DUE.holds("the class is public and final", Modifier.isPublic(c.getModifiers()) && Modifier.isFinal(c.getModifiers()));
        Set<String> names = new TreeSet<>();
        Set<String> face = new TreeSet<>();
        for (Method m : c.getDeclaredMethods()) {
            if (m.isSynthetic() || Modifier.isPrivate(m.getModifiers())) continue;
            DUE.holds(m + " is public and answers an int", Modifier.isPublic(m.getModifiers()) && m.getReturnType() == int.class);
            StringBuilder s = new StringBuilder(m.getName()).append('(');
            for (Class<?> p : m.getParameterTypes()) s.append(s.charAt(s.length() - 1) == '(' ? "" : ", ").append(p.getName());
            face.add(s.append(')').toString());
            names.add(m.getName());
        }
        DUE.holds("the methods are those of the document: " + face, face.equals(new TreeSet<>(Set.of(FACE))));
        for (Constructor<?> k : c.getDeclaredConstructors()) DUE.is("parameters of " + k, k.getParameterCount(), 0);
        Set<String> shown = new TreeSet<>();
        for (Field f : c.getDeclaredFields()) {
            if (!Modifier.isPrivate(f.getModifiers()) && !f.isSynthetic()) shown.add(f.getName());
            DUE.holds(f + ": static fields are final", !Modifier.isStatic(f.getModifiers()) || Modifier.isFinal(f.getModifiers()));
        }
        DUE.holds("the fields shown are the constants: " + shown, shown.equals(Set.of("NONE", "UNKNOWN", "OUTSIDE", "NOT", "FULL")));
        inside(c, names);
    }

    private static void inside(Class<?> c, Set<String> names) {
        DUE.holds("at most twelve classes", c.getDeclaredClasses().length + 1 <= 12);
        for (Class<?> d : c.getDeclaredClasses()) {
            DUE.holds(d + " is static", Modifier.isStatic(d.getModifiers()));
            DUE.holds(d + " has some twenty fields at most", d.getDeclaredFields().length <= 20);
            for (Method m : d.getDeclaredMethods()) {
                DUE.holds(m + " has no name of the face", !names.contains(m.getName()));
                DUE.holds(m + " takes at most seven", m.getParameterCount() <= 7);
            }
        }
        for (Method m : c.getDeclaredMethods()) {
            if (Modifier.isPrivate(m.getModifiers())) DUE.holds(m + " has no name of the face", !names.contains(m.getName()));
        }
    }

    private static void source(String text) {
        String code = text.replaceAll("(?s)/\\*.*?\\*/", "").replaceAll("//[^\n]*", "");
        String[] banned = {"import", "package", "throw", "throws", "try", "catch", "synchronized", "assert", "Object", "System\\.(?!arraycopy)", "Exact",
            "->", "::", "Random", "Thread"};
        for (String word : banned) {
            String whole = Character.isLetter(word.charAt(0)) && Character.isLetter(word.charAt(word.length() - 1)) ? "\\b" + word + "\\b" : word;
            Matcher found = Pattern.compile(whole).matcher(code);
            DUE.holds("the source has no " + word, !found.find());
        }
        headings(text);
        longMethods(text);
    }

    private static void headings(String text) {
        StringBuilder found = new StringBuilder();
        Matcher line = Pattern.compile("(?m)^    (?:// ---- (.*)|public int (\\w+)\\(.*)$").matcher(text);
        while (line.find()) {
            boolean first = found.length() == 0 || found.charAt(found.length() - 1) == ':';
            if (line.group(2) != null) found.append(first ? " " : ", ").append(line.group(2));
            else found.append(found.length() == 0 ? "" : "\n").append(line.group(1)).append(':');
        }
        // Behind the last of them the source's own helpers stand, under a heading without a call of the face.
        String due = String.join("\n", HEADINGS);
        DUE.holds("each heading stands ahead of its calls: " + found, (found + "\n").startsWith(due + "\n"));
    }

    private static void longMethods(String text) {
        String[] lines = text.split("\n");
        for (int i = 0; i < lines.length; i++) {
            if (!lines[i].endsWith("{") || !lines[i].matches("( {4}| {8})\\S.*\\) \\{")) continue;
            String end = lines[i].replaceAll("\\S.*", "") + "}";
            int j = i;
            while (j < lines.length && !lines[j].equals(end)) j++;
            DUE.holds("some sixty lines at most: " + lines[i].trim(), j - i <= 60);
        }
    }
}
