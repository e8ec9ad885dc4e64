/** Promises 12 to 20: what is tried, by which nothing changes. */
public final class TriedTest {
    private static final Due DUE = new Due();
    private static final String THREE = "h1 2;l0 8 1;l0 3 0;l1 6 1;j0 12;j1 20;";
    /** Each of lords 1, 2, 3 laughs only if looked at, and only at a joke of fun 10 or more. */
    private static final String ONE_BY_ONE = "h0 0;l0 20 0;l0 10 15;l1 10 15;l2 10 15;";

    public static void main(String[] args) {
        falls();
        alone();
        aloneFirstOfLike();
        duel();
        duelRefused();
        safe();
        draws();
        cover();
        toldAndSure();
        wired();
        nothingChanges();
        DUE.end("TriedTest");
    }

    /** Promise 12; what falls is held against what is told in TellingsTest too. */
    private static void falls() {
        LastLaugh x = Due.hall(THREE);
        DUE.is("falls(0, 0, 2)", x.falls(0, 0, 2), 6);
        DUE.is("falls(2, 1, 0)", x.falls(2, 1, 0), 0);
        DUE.is("falls(0, 0, 0)", x.falls(0, 0, 0), LastLaugh.UNKNOWN);
        DUE.is("falls(3, 0, 0)", x.falls(3, 0, 0), LastLaugh.UNKNOWN);
        DUE.is("falls(0, 2, 1)", x.falls(0, 2, 1), LastLaugh.UNKNOWN);
        DUE.is("falls(0, 0, -1)", x.falls(0, 0, -1), LastLaugh.UNKNOWN);
        x.tell(1, 0, 2);
        DUE.is("falls by who is out", x.falls(2, 0, 0), LastLaugh.NOT);
        DUE.is("falls at who is out", x.falls(0, 0, 2), LastLaugh.NOT);
        DUE.is("falls at a worn joke", x.falls(1, 0, 0), 0);
    }

    private static void row(LastLaugh x, int l, int... due) {
        DUE.is("alone(" + l + ", NONE)", x.alone(l, LastLaugh.NONE), due.length);
        for (int i = 0; i < due.length; i++) DUE.is("alone(" + l + ", " + i + ")", x.alone(l, i), due[i]);
        DUE.is("alone behind the row", x.alone(l, due.length), LastLaugh.NONE);
        DUE.is("alone(" + l + ", -2)", x.alone(l, -2), LastLaugh.NONE);
    }

    private static void never(LastLaugh x, int l) {
        for (int i = -1; i <= 3; i++) DUE.is("alone(" + l + ", " + i + ")", x.alone(l, i), LastLaugh.NONE);
    }

    /** Promise 13. */
    private static void alone() {
        row(Due.hall(THREE), 0, 1);
        row(Due.hall(THREE), 1, 0);
        row(Due.hall(THREE), 2, 0);
        row(Due.hall("h0 0;l0 1 0;j0 1;"), 0);
        never(Due.hall("h0 0;l0 1 0;l0 1 0;"), 0);
        row(Due.hall(ONE_BY_ONE + "j0 10;j1 10;j2 10;"), 0, 1, 12, 23);
        never(Due.hall(ONE_BY_ONE + "j0 10;j1 10;"), 0);
        // Told again it is half: too little for the third one.
        never(Due.hall(ONE_BY_ONE + "j0 19;j1 10;"), 0);
        LastLaugh x = Due.hall(ONE_BY_ONE + "j0 10;j1 10;j2 10;");
        x.tell(0, 0, 2);
        row(x, 0, 11, 23);
        DUE.is("who is out", x.alone(2, -1), LastLaugh.NOT);
        DUE.is("who is not", x.alone(4, -1), LastLaugh.UNKNOWN);
        DUE.is("who is not", x.alone(-1, 0), LastLaugh.UNKNOWN);
        // Four, one by one: four tellings would do, three do not.
        never(Due.hall("h0 0;l0 20 0;l0 10 15;l1 10 15;l2 10 15;l2 9 15;j0 10;j1 10;j2 10;j3 10;"), 0);
    }

    private static void aloneFirstOfLike() {
        // Joke 0 at lord 1 has him out, and joke 1 at lord 2 has lord 2: of like rows the one with the least first thing.
        row(Due.hall("h0 0;l0 20 0;l1 10 15;l2 10 15;j0 10;j1 10;"), 0, 1, 12);
        // A look at lord 2 has lord 1 out too, by half of it.
        row(Due.hall("h0 0;l0 20 0;l1 10 15;l2 20 15;j0 20;j1 10;"), 0, 2);
        row(Due.hall("h0 0;l0 20 0;l1 11 15;l2 20 15;j0 20;j1 11;"), 0, 2, 11);
        // Whom joke 1 needs to be understood must not be out before.
        row(Due.hall("h0 0;l0 20 0;l1 16 3;l2 15 1;j0 16;j1 30;"), 0, 1, 12);
        row(Due.hall("h1 0;l0 20 0;l1 16 3;l2 15 1;j0 16;j1 30;"), 0, 2, 11);
    }

    private static void duels(String text, int a, int b, int n, int outcome, int thing) {
        LastLaugh x = Due.hall(text);
        String call = "duel(" + a + ", " + b + ", " + n + ", ";
        DUE.is(call + "0) in " + text, x.duel(a, b, n, 0), outcome);
        DUE.is(call + "1) in " + text, x.duel(a, b, n, 1), thing);
    }

    /** Promise 14. */
    private static void duel() {
        String even = "h0 0;l0 10 15;l1 10 15;j0 10;";
        duels(even, 0, 1, 1, 2, 1);
        duels(even, 1, 0, 1, 2, 0);
        String strong = "h0 0;l0 5 15;l1 20 15;j0 10;j1 6;";
        duels(strong, 0, 1, 1, 1, 1);
        // Whatever lord 0 tells, the other joke, or what is left of it, has him out.
        duels(strong, 0, 1, 2, 0, 1);
        duels(strong, 1, 0, 3, 2, 0);
        // Telling joke 1 himself leaves lord 1 nothing: 7 / 2 is 3.
        duels("h0 0;l0 5 15;l1 20 15;j0 4;j1 7;", 0, 1, 2, 1, 11);
        duels("h0 0;l0 5 15;l1 20 15;j0 4;j1 7;", 0, 1, 3, 1, 11);
        // The third one is had out first, without whom joke 1 is not understood; looks at him count.
        duels("h1 0;l0 5 0;l1 20 0;l2 4 15;j0 4;j1 30;", 0, 1, 2, 1, 2);
        duels("h0 0;l0 5 15;l1 20 15;", 0, 1, 3, 1, -1);
        // No joke is enough for either: of like things the first.
        duels("h0 0;l0 20 15;l1 9 15;j0 8;j1 8;", 0, 1, 3, 1, 1);
    }

    private static void duelRefused() {
        LastLaugh x = Due.hall(THREE);
        DUE.is("duel with himself", x.duel(1, 1, 1, 0), LastLaugh.UNKNOWN);
        DUE.is("duel(3, 1, 1, 0)", x.duel(3, 1, 1, 0), LastLaugh.UNKNOWN);
        DUE.is("duel(0, -1, 9, 0)", x.duel(0, -1, 9, 0), LastLaugh.UNKNOWN);
        DUE.is("duel(0, 1, 0, 0)", x.duel(0, 1, 0, 0), LastLaugh.OUTSIDE);
        DUE.is("duel(0, 1, 4, 0)", x.duel(0, 1, 4, 0), LastLaugh.OUTSIDE);
        DUE.is("duel(0, 1, 1, 2)", x.duel(0, 1, 1, 2), LastLaugh.OUTSIDE);
        DUE.is("duel(0, 1, 1, -1)", x.duel(0, 1, 1, -1), LastLaugh.OUTSIDE);
        x.tell(1, 0, 2);
        DUE.is("duel of who is out", x.duel(2, 0, 1, 0), LastLaugh.NOT);
        DUE.is("duel with who is out", x.duel(0, 2, 1, 0), LastLaugh.NOT);
        DUE.is("outside comes ahead of not", x.duel(0, 2, 4, 0), LastLaugh.OUTSIDE);
    }

    /** Promise 15. */
    private static void safe() {
        DUE.is("safe() of THREE", Due.hall(THREE).safe(), 0);
        DUE.is("safe() where none is one by one", Due.hall(ONE_BY_ONE + "j0 10;").safe(), 1);
        DUE.is("safe() without jokes", Due.hall("h0 0;l0 1 1;l0 1 1;").safe(), 3);
        LastLaugh x = Due.hall(ONE_BY_ONE + "j0 10;");
        x.tell(0, 0, 2);
        DUE.is("safe() behind the joke", x.safe(), 11);
        // Only lord 1 can bring lord 0 out: told by him, both others understand it.
        DUE.is("safe() by who tells", Due.hall("h2 0;l0 5 1;l1 5 0;l2 20 1;j0 10;").safe(), 6);
        DUE.is("safe() alone", Due.hall("h0 0;l0 1 1;j0 9;").safe(), 1);
    }

    /** Promise 16. */
    private static void draws() {
        LastLaugh x = Due.hall("h0 1;l0 4 0;l0 3 0;l0 6 0;l0 9 0;l0 13 0;l1 1 0;j0 1;");
        DUE.is("draws(0)", x.draws(0), 15);
        DUE.is("draws(1)", x.draws(1), 2);
        DUE.is("draws(2): lord 1, then lord 0, then lord 3", x.draws(2), 15);
        DUE.is("draws(4)", x.draws(4), 31);
        DUE.is("draws(5)", x.draws(5), 32);
        x.night(1);
        DUE.is("draws(1) behind a night", x.draws(1), 31);
        DUE.is("draws(6)", x.draws(6), LastLaugh.UNKNOWN);
        DUE.is("draws(-1)", x.draws(-1), LastLaugh.UNKNOWN);
        x = Due.hall("h0 0;l0 2 1;l0 3 0;l1 20 0;j0 1;j1 2;");
        x.tell(2, 1, 1);
        DUE.is("nobody fell", x.told(8), 7);
        x = Due.hall("h0 0;l0 1 1;l0 7 0;l0 3 0;l1 20 0;j0 1;");
        DUE.is("draws(1) of three", x.draws(1), 7);
        x.tell(3, 0, 0);
        DUE.is("draws(1) where the others are out", x.told(8), 10);
        DUE.is("draws(1) alone on his bench", x.draws(1), 2);
        DUE.is("draws(0), who is out", x.draws(0), LastLaugh.NOT);
    }

    /** Promise 17. */
    private static void cover() {
        DUE.is("cover by one joke", Due.hall(ONE_BY_ONE + "j0 9;j0 10;j0 10;").cover(0), 2);
        DUE.is("not by lord 1", Due.hall(ONE_BY_ONE + "j0 9;j0 10;").cover(1), -1);
        DUE.is("cover by two", Due.hall("h0 0;l0 20 0;l0 9 1;l1 9 2;l2 9 2;j0 9;j1 9;j0 9;j1 9;").cover(0), 3);
        DUE.is("two rather than three", Due.hall("h0 0;l0 20 0;l0 9 1;l1 9 2;l2 9 4;j0 9;j1 9;j2 9;j3 17;j3 18;").cover(0), 16);
        DUE.is("fewer rather than less", Due.hall("h0 0;l0 20 0;l0 9 9;l1 9 10;j0 9;j1 9;j3 9;").cover(0), 4);
        DUE.is("cover without jokes", Due.hall("h0 0;l0 1 1;l0 1 1;").cover(0), -1);
        DUE.is("cover of nobody", Due.hall("h0 0;l0 1 1;j0 1;").cover(0), 0);
        LastLaugh x = Due.hall(ONE_BY_ONE + "j0 10;j1 10;");
        x.tell(0, 0, 2);
        DUE.is("a worn joke covers nobody", x.cover(0), 2);
        DUE.is("cover(2), who is out", x.cover(2), LastLaugh.NOT);
        DUE.is("cover(4)", x.cover(4), LastLaugh.UNKNOWN);
    }

    /** Promises 18 and 19. */
    private static void toldAndSure() {
        LastLaugh x = Due.hall(ONE_BY_ONE + "j0 10;j1 5;j2 10;");
        DUE.is("toldBy: how many", x.toldBy(0, 4, -1), 2);
        DUE.is("toldBy: first", x.toldBy(0, 4, 0), 2);
        DUE.is("toldBy: second", x.toldBy(0, 4, 1), 22);
        DUE.is("toldBy: third", x.toldBy(0, 4, 2), -1);
        DUE.is("toldBy: before the first", x.toldBy(0, 4, -2), -1);
        DUE.is("sure", x.sure(0, 4), 5);
        DUE.is("nobody fell: how many", x.toldBy(0, 0, -1), 3);
        DUE.is("nobody fell: the last", x.toldBy(0, 0, 2), 13);
        DUE.is("nobody fell: sure", x.sure(0, 0), 2);
        DUE.is("he himself can not have", x.toldBy(0, 1, -1), 0);
        DUE.is("two can not have", x.sure(0, 6), 0);
        DUE.is("by another one", x.toldBy(2, 2, 0), 1);
        int[][] unknown = {{4, 0}, {-1, 0}, {0, 16}, {0, -1}, {0, 1 << 31}};
        for (int[] c : unknown) {
            DUE.is("toldBy(" + c[0] + ", " + c[1] + ")", x.toldBy(c[0], c[1], -1), LastLaugh.UNKNOWN);
            DUE.is("sure(" + c[0] + ", " + c[1] + ")", x.sure(c[0], c[1]), LastLaugh.UNKNOWN);
        }
        x.tell(0, 0, 2);
        DUE.is("toldBy of who is out", x.toldBy(2, 0, -1), LastLaugh.NOT);
        DUE.is("sure of who is out", x.sure(2, 0), LastLaugh.NOT);
        DUE.is("unknown comes ahead of not", x.sure(2, 16), LastLaugh.UNKNOWN);
        DUE.is("who is out does not fall again", x.toldBy(0, 4, -1), 0);
        DUE.is("a worn joke has nobody out", x.toldBy(0, 0, -1), 4);
        DUE.is("sure of the others", x.sure(0, 8), 4);
    }

    /** Promise 20. */
    private static void wired() {
        LastLaugh x = Due.hall("h2 0;l0 5 1;l1 5 0;l2 20 1;j0 10;");
        DUE.is("wired(1)", x.wired(1), 2);
        DUE.is("wired(0)", x.wired(0), 5);
        DUE.is("wired(2)", x.wired(2), 0);
        DUE.is("wired(8)", x.wired(8), LastLaugh.UNKNOWN);
        DUE.is("wired(-1)", x.wired(-1), LastLaugh.UNKNOWN);
        x = Due.hall(ONE_BY_ONE + "j0 10;");
        DUE.is("anyone but himself", x.wired(4), 11);
        x.tell(0, 0, 3);
        x.night(1);
        DUE.is("nor who is out", x.wired(4), 3);
        DUE.is("alone nobody tells", Due.hall("h0 0;l0 1 1;j0 9;").wired(0), 0);
        DUE.is("without jokes nobody tells", Due.hall("h0 0;l0 1 1;l0 1 1;").wired(0), 0);
    }

    private static void nothingChanges() {
        LastLaugh x = Due.hall(ONE_BY_ONE + "j0 10;j1 30;j2 10;");
        x.seed(5);
        x.tell(0, 2, 1);
        x.alone(0, -1);
        x.alone(2, 1);
        x.duel(0, 3, 3, 1);
        x.safe();
        x.draws(0);
        x.cover(0);
        x.toldBy(0, 4, 0);
        x.sure(0, 4);
        x.wired(4);
        x.falls(0, 1, 2);
        int[] due = {1, 0, 0, 4, 3, 0, 0, 1, 13, -1, 2, 0, 0, 1};
        for (int what = 0; what < due.length; what++) DUE.is("tried: told(" + what + ")", x.told(what), due[what]);
        for (int j = 0; j < 3; j++) DUE.is("tried: joke(" + j + ", 3)", x.joke(j, 3), j == 2 ? 1 : 0);
        DUE.is("tried: seed", x.seed(0), 5);
    }
}
