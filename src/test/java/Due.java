/** Counts the answers that are not as due, and feeds texts. Shared by the tests; no test of its own. */
final class Due {
    private int wrong = 0;
    private int asked = 0;

    void is(String call, long got, long want) {
        asked++;
        if (got == want) return;
        wrong++;
        if (wrong <= 40) System.out.println(call + " answered " + got + ", due is " + want);
    }

    void holds(String what, boolean so) {
        asked++;
        if (so) return;
        wrong++;
        System.out.println("not so: " + what);
    }

    boolean anyWrong() {
        return wrong != 0;
    }

    void end(String test) {
        System.out.println(test + ": " + asked + " answers, " + wrong + " not as due");
        if (wrong != 0) System.exit(1);
    }

    static LastLaugh feed(LastLaugh x, String text) {
        for (int i = 0; i < text.length(); i++) x.feed(text.charAt(i));
        return x;
    }

    /** A new object whose hall is told by a text without a fault. */
    static LastLaugh hall(String text) {
        LastLaugh x = feed(new LastLaugh(), text);
        int lords = x.hall();
        if (lords < 0) throw new IllegalStateException("the test's own text has a fault: " + text);
        return x;
    }
}
