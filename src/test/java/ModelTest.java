import java.util.Random;

/** Runs of drawn calls on LastLaugh and on the Model: each answer, and all that can be asked of the state, is the same. */
public final class ModelTest {
    private static final int RUNS = 2000, CALLS = 180;

    private static final Due DUE = new Due();
    private static Random random;
    private static LastLaugh x;
    private static Model m;
    private static int run;

    public static void main(String[] args) {
        for (run = 0; run < RUNS && !DUE.anyWrong(); run++) {
            random = new Random(run);
            x = new LastLaugh();
            m = new Model();
            if (random.nextInt(12) != 0) tellHall(text());
            for (int i = 0; i < CALLS && !DUE.anyWrong(); i++) {
                call(random.nextInt(64));
                if (i % 30 == 29) lookAround();
            }
        }
        DUE.end("ModelTest");
    }

    private static int below(int n) { return random.nextInt(n); }

    /** Mostly a number of these, seldom one beside them. */
    private static int some(int n) {
        switch (below(60)) {
            case 0: return -1;
            case 1: return n;
            case 2: return n + 1 + below(40);
            case 3: return below(2) == 0 ? Integer.MIN_VALUE : Integer.MAX_VALUE;
            default: return n < 1 ? 0 : below(n);
        }
    }

    private static int someLord() {
        if (below(4) != 0 && !m.now.in.isEmpty()) {
            return m.now.in.stream().skip(below(m.now.in.size())).findFirst().orElse(0);
        }
        return some(m.lords.size());
    }

    private static int someJoke() { return some(m.jokes.size()); }

    private static int someSet() {
        switch (below(30)) {
            case 0: return -1 - below(70);
            case 1: return 1 << m.lords.size();
            case 2: return below(256);
            default: return below(1 << m.lords.size());
        }
    }

    /** A set that falls at something, so that toldBy and its like find it. */
    private static int someFallen() {
        if (below(4) == 0 || m.now.in.size() < 2 || m.jokes.isEmpty()) return someSet();
        int l = someLord();
        int set = m.falls(l, below(m.jokes.size()), someLord());
        return set < 0 ? someSet() : set;
    }

    private static String text() {
        StringBuilder s = new StringBuilder();
        int lords = below(5) == 0 ? below(3) : 2 + below(5);
        int jokes = below(8) == 0 ? 0 : 1 + below(6);
        int most = 4 + below(17);
        clause(s, 'h', below(3) == 0 ? below(6) : below(3), below(4), NO);
        while (lords + jokes > 0) {
            if (below(lords + jokes) < lords) {
                clause(s, 'l', below(3), 1 + below(most), below(16));
                lords--;
            } else {
                clause(s, 'j', below(4), 1 + below(30), NO);
                jokes--;
            }
        }
        return s.toString();
    }

    private static final int NO = -1;

    private static void clause(StringBuilder s, char word, int a, int b, int c) {
        blanks(s);
        s.append(word);
        blanks(s);
        number(s, a);
        s.append(' ');
        blanks(s);
        number(s, b);
        if (c != NO) {
            s.append(' ');
            number(s, c);
        }
        blanks(s);
        s.append(';');
        blanks(s);
    }

    private static void number(StringBuilder s, int v) {
        if (below(25) == 0 && v < 10) s.append('0');
        if (below(25) == 0 && v < 10) s.append('0');
        s.append(v);
    }

    private static void blanks(StringBuilder s) {
        if (below(20) == 0) s.append(' ');
        if (below(60) == 0) s.append("  ");
    }

    private static String spoiled(String text) {
        StringBuilder s = new StringBuilder(text);
        int many = below(3);
        for (int i = 0; i < many; i++) {
            int where = below(s.length() + 1);
            String put = "hlj;0123456789 x\u00e9\0";
            switch (below(3)) {
                case 0: s.insert(where, put.charAt(below(put.length()))); break;
                case 1: if (where < s.length()) s.deleteCharAt(where); break;
                default: if (where < s.length()) s.setCharAt(where, put.charAt(below(put.length()))); break;
            }
        }
        if (below(6) == 0) s.append(below(2) == 0 ? "h0 0;" : "l0 1 1;l0 1 1;l0 1 1;j0 1;j0 1;j0 1;");
        if (below(6) == 0) s.setLength(below(s.length() + 1));
        if (below(15) == 0) return below(2) == 0 ? "" : "  ";
        return s.toString();
    }

    private static void same(String call, int got, int want) {
        DUE.is("run " + run + ": " + call, got, want);
    }

    private static void tellHall(String text) {
        for (int i = 0; i < text.length(); i++) same("feed", x.feed(text.charAt(i)), m.feed(text.charAt(i)));
        same("hall() of '" + text + "'", x.hall(), m.hall());
        same("fault() of '" + text + "'", x.fault(), m.fault());
    }

    private static void call(int which) {
        if (which < 24) happening(which);
        else if (which < 44) tried(which);
        else if (which < 56) noted(which);
        else other(which);
    }

    private static void happening(int which) {
        if (which < 12) {
            int l = someLord(), j = someJoke(), at = someLord();
            same("tell(" + l + ", " + j + ", " + at + ")", x.tell(l, j, at), m.tell(l, j, at));
        } else if (which < 14) {
            int n = below(4) == 0 ? some(21) : 1 + below(2);
            same("night(" + n + ")", x.night(n), m.night(n));
        } else if (which < 16) {
            int n = below(4) == 0 ? some(41) : 1 + below(3);
            same("drift(" + n + ")", x.drift(n), m.drift(n));
        } else {
            int n = below(3) == 0 ? some(31) : 1 + below(3);
            same("undo(" + n + ")", x.undo(n), m.undo(n));
        }
    }

    private static void tried(int which) {
        int l = someLord(), j = someJoke(), at = someLord(), i = below(3) == 0 ? -1 : some(4);
        if (which < 28) {
            same("falls(" + l + ", " + j + ", " + at + ")", x.falls(l, j, at), m.falls(l, j, at));
        } else if (which == 28) {
            if (below(4) == 0) same("alone(" + l + ", " + i + ")", x.alone(l, i), m.alone(l, i));
        } else if (which == 29) {
            int n = some(4), what = some(2);
            if (n == 3 && below(4) != 0) n = 2;
            same("duel(" + l + ", " + at + ", " + n + ", " + what + ")", x.duel(l, at, n, what), m.duel(l, at, n, what));
        } else if (which < 32) {
            same("safe()", x.safe(), m.safe());
        } else if (which < 34) {
            same("draws(" + l + ")", x.draws(l), m.draws(l));
        } else if (which < 36) {
            same("cover(" + l + ")", x.cover(l), m.cover(l));
        } else if (which < 40) {
            int set = someFallen();
            same("toldBy(" + l + ", " + set + ", " + i + ")", x.toldBy(l, set, i), m.toldBy(l, set, i));
        } else if (which < 42) {
            int set = someFallen();
            same("sure(" + l + ", " + set + ")", x.sure(l, set), m.sure(l, set));
        } else {
            int set = someFallen();
            same("wired(" + set + ")", x.wired(set), m.wired(set));
        }
    }

    private static void noted(int which) {
        int l = some(m.lords.size()), j = someJoke();
        if (which < 47) {
            boolean falls = random.nextBoolean();
            same("see(" + l + ", " + j + ", " + falls + ")", x.see(l, j, falls), m.see(l, j, falls));
        } else if (which == 47) {
            same("tastes(" + l + ")", x.tastes(l), m.tastes(l));
        } else if (which < 50) {
            int what = some(2);
            same("sads(" + l + ", " + what + ")", x.sads(l, what), m.sads(l, what));
        } else if (which < 53) {
            int set = below(2) == 0 ? m.told(8) : someSet();
            int tellings = below(3) == 0 ? some(1000) : m.now.tellings + below(2);
            same("write(" + tellings + ", " + set + ")", x.write(tellings, set), m.write(tellings, set));
        } else if (which < 55) {
            same("judge()", x.judge(), m.judge());
        } else if (below(4) == 0) {
            same("tear()", x.tear(), m.tear());
        }
    }

    private static void other(int which) {
        int l = some(m.lords.size()), j = someJoke(), what = some(5);
        if (which < 58) {
            int i = some(2);
            same("keep(" + i + ")", x.keep(i), m.keep(i));
        } else if (which < 61) {
            int i = some(2);
            same("goBack(" + i + ")", x.goBack(i), m.goBack(i));
        } else if (which == 61) {
            int v = random.nextInt();
            same("seed(" + v + ")", x.seed(v), m.seed(v));
        } else if (which == 62) {
            same("lord(" + l + ", " + what + ")", x.lord(l, what), m.lord(l, what));
            same("joke(" + j + ", " + what + ")", x.joke(j, what), m.joke(j, what));
            int letter = some(256);
            same("feed(" + letter + ")", x.feed(letter), m.feed(letter));
        } else if (below(3) == 0) {
            tellHall(below(2) == 0 ? text() : spoiled(text()));
        }
    }

    private static void lookAround() {
        for (int what = -1; what <= 14; what++) same("told(" + what + ")", x.told(what), m.told(what));
        for (int l = 0; l < m.lords.size(); l++) same("lord(" + l + ", 4)", x.lord(l, 4), m.lord(l, 4));
        for (int j = 0; j < m.jokes.size(); j++) same("joke(" + j + ", 3)", x.joke(j, 3), m.joke(j, 3));
        same("fault()", x.fault(), m.fault());
    }
}
