import java.util.HashSet;
import java.util.Set;

/** Counts the answers that are not as due, and feeds texts. Shared by the tests; no test of its own. */
final class Due {
    private int wrong = 0;
    private int asked = 0;
    private final Set<String> sentences = new HashSet<>();
    private String told = "";

    /** What is asked from here on holds a sentence of the document, with the number of its promise beside it. */
    void sentence(int promise, String words) {
        told = "promise " + promise + ", \"" + words + "\": ";
        sentences.add(told);
    }

    void is(String call, long got, long want) {
        asked++;
        if (got == want) return;
        wrong++;
        if (wrong <= 40) System.out.println(told + call + " answered " + got + ", due is " + want);
    }

    void holds(String what, boolean so) {
        asked++;
        if (so) return;
        wrong++;
        System.out.println(told + "not so: " + what);
    }

    boolean anyWrong() {
        return wrong != 0;
    }

    void end(String test) {
        String of = sentences.isEmpty() ? "" : sentences.size() + " sentences, ";
        System.out.println(test + ": " + of + asked + " answers, " + wrong + " not as due");
        if (wrong != 0) System.exit(1);
    }

    static LastLaugh feed(LastLaugh x, String text) {
        for (int i = 0; i < text.length(); i++) x.feed(text.charAt(i));
        return x;
    }

    /** A new object whose hall is told by a text without a fault. */
    static LastLaugh hall(String text) {
        LastLaugh x = feed(new LastLaugh(), text);
        int lords = x.hall();
        if (lords < 0) throw new IllegalStateException("the test's own text has a fault: " + text);
        return x;
    }
}
