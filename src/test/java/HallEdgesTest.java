import java.util.List;

/** Promises 1, 3, 5, 6, 7: each sentence on the hall that names a boundary has a test of its own. */
public final class HallEdgesTest {
    private static final Due DUE = new Due();
    private static final int MIN = Integer.MIN_VALUE, MAX = Integer.MAX_VALUE;
    private static final String TEXT = "h1 1;l0 8 1;l0 3 0;l1 6 1;l2 20 3;j0 12;j1 10;";

    public static void main(String[] args) {
        noHall();
        fiveHundredAndTwelveCalls();
        becomesTheHall();
        becomesTheHallBehindAFault();
        nightZeroAllIn();
        nothingSeen();
        imagesGone();
        undoneGone();
        seedStays();
        allAsItWas();
        thereIsAHall();
        toldOutside();
        kingOfOne();
        kingOfMoreOrNobody();
        outByTheLatest();
        howManyCanBeUndone();
        lordsNumbered();
        lordUnknown();
        lordOutside();
        holdOneAtLeast();
        tellingFromOneOn();
        jokesNumbered();
        jokeUnknown();
        jokeOutside();
        funNow();
        asNightsHaveIt();
        DUE.end("HallEdgesTest");
    }

    /** A hall in which all has happened that a new one ends. */
    private static LastLaugh used() {
        LastLaugh x = Due.hall(TEXT);
        x.keep(0);
        x.tell(3, 0, 2);
        x.keep(1);
        x.night(1);
        x.tell(0, 1, 3);
        x.seed(77);
        x.see(0, 0, true);
        x.see(1, 1, false);
        x.write(2, 8);
        return x;
    }

    private static LastLaugh next() {
        LastLaugh x = used();
        Due.feed(x, "h0 0;l0 1 0;l0 1 0;j0 1;j0 1;").hall();
        return x;
    }

    // ---- promise 1

    private static void noHall() {
        DUE.sentence(1, "No HALL");
        LastLaugh x = new LastLaugh();
        for (int what = 0; what <= 13; what++) DUE.is("told(" + what + ")", x.told(what), what == 9 ? LastLaugh.NONE : 0);
        DUE.is("lord(0, 0)", x.lord(0, 0), LastLaugh.UNKNOWN);
        DUE.is("joke(0, 0)", x.joke(0, 0), LastLaugh.UNKNOWN);
        DUE.is("night(1)", x.night(1), LastLaugh.NOT);
        DUE.is("drift(1)", x.drift(1), LastLaugh.NOT);
        DUE.is("safe()", x.safe(), 0);
        DUE.is("wired(0)", x.wired(0), 0);
        DUE.is("judge()", x.judge(), LastLaugh.NONE);
        DUE.is("tear()", x.tear(), 0);
        DUE.is("seed(0)", x.seed(0), 0);
    }

    private static void fiveHundredAndTwelveCalls() {
        DUE.sentence(1, "An object is used for at most 512 calls after it has been made");
        LastLaugh x = Due.hall("h5 0;l0 20 0;l1 20 0;j0 1;");
        int calls = "h5 0;l0 20 0;l1 20 0;j0 1;".length() + 1;
        int tellings = 511 - calls;
        for (int i = 0; i < tellings; i++) x.tell(0, 0, 1);
        DUE.is("the 512th call", x.told(7), tellings);
    }

    // ---- promise 3

    /** Nothing of an earlier text is left, however many there were: benches, tastes, what must be understood, jokes. */
    private static void becomesTheHall() {
        DUE.sentence(3, "THE TEXT (it is empty then, with a FAULT, too) becomes THE HALL");
        String full = "h5 3;l0 1 15;l0 1 15;l0 1 15;l0 1 15;j0 30;j1 30;j2 30;";
        for (int ahead = 0; ahead <= 3; ahead++) {
            LastLaugh x = new LastLaugh();
            for (int i = 0; i < ahead; i++) Due.feed(x, full).hall();
            onlyOfItsText(x, ahead + " texts ahead");
            for (int i = 0; i < ahead; i++) Due.feed(x, full).hall();
            onlyOfItsTastes(x, ahead + " texts ahead");
            for (int i = 0; i < ahead; i++) Due.feed(x, full).hall();
            x.hall();
            for (int what = 0; what <= 4; what++) DUE.is(ahead + " texts ahead of an empty one: told(" + what + ")", x.told(what), 0);
        }
    }

    private static void becomesTheHallBehindAFault() {
        DUE.sentence(3, "(it is empty then, with a FAULT, too) becomes THE HALL");
        for (int ahead = 1; ahead <= 3; ahead++) {
            LastLaugh x = new LastLaugh();
            for (int i = 0; i < ahead; i++) Due.feed(x, "h5 3;l0 1 15;l0 1 15;l0 1 15;l0 1 15;j0 30;j1 30;?").hall();
            onlyOfItsText(x, ahead + " faults ahead");
            for (int i = 0; i < ahead; i++) Due.feed(x, "h5 3;l0 1 15;l0 1 15;l0 1 15;l0 1 15;j0 30;j1 30;?").hall();
            onlyOfItsTastes(x, ahead + " faults ahead");
        }
    }

    private static void onlyOfItsText(LastLaugh x, String when) {
        DUE.is(when + ": hall()", Due.feed(x, "h1 0;l1 20 0;l2 1 1;l1 3 0;j0 1;j1 30;").hall(), 3);
        int[] due = {1, 1, 0, 3, 2};
        for (int what = 0; what < due.length; what++) DUE.is(when + ": told(" + what + ")", x.told(what), due[what]);
        DUE.is(when + ": nobody catches it from another bench", x.falls(0, 0, 1), 2);
        DUE.is(when + ": nobody understands kind 1", x.falls(0, 1, 1), 0);
        DUE.is(when + ": lord(3, 0)", x.lord(3, 0), LastLaugh.UNKNOWN);
        DUE.is(when + ": joke(2, 0)", x.joke(2, 0), LastLaugh.UNKNOWN);
    }

    private static void onlyOfItsTastes(LastLaugh x, String when) {
        DUE.is(when + ": hall()", Due.feed(x, "h1 0;l0 1 0;l1 1 0;j0 30;j1 30;j2 30;j3 30;").hall(), 2);
        for (int j = 0; j < 4; j++) {
            DUE.is(when + ": nobody understands kind " + j, x.falls(0, j, 1), 0);
            DUE.is(when + ": nobody understands kind " + j, x.falls(1, j, 0), 0);
        }
    }

    private static void nightZeroAllIn() {
        DUE.sentence(3, "(NIGHT 0, nothing told, all IN it");
        LastLaugh x = used();
        DUE.is("told(7) of the used one", x.told(7), 2);
        x = next();
        DUE.is("told(6)", x.told(6), 0);
        DUE.is("told(7)", x.told(7), 0);
        DUE.is("told(8)", x.told(8), 3);
        DUE.is("told(10)", x.told(10), 0);
        DUE.is("lord(1, 4)", x.lord(1, 4), LastLaugh.NONE);
        DUE.is("joke(0, 3)", x.joke(0, 3), 0);
        DUE.is("joke(1, 3)", x.joke(1, 3), 0);
        x = Due.hall(TEXT);
        x.tell(3, 0, 2);
        DUE.is("out by the latest telling", x.told(10), 6);
        Due.feed(x, TEXT).hall();
        DUE.is("nothing was told in the next one", x.told(10), 0);
        DUE.is("nor worn", x.joke(0, 2), 12);
        DUE.is("all are in it", x.told(8), 15);
    }

    private static void nothingSeen() {
        DUE.sentence(3, "nothing SEEN, no BOOK");
        LastLaugh x = used();
        DUE.is("told(11) of the used one", x.told(11), 2);
        DUE.is("told(12) of the used one", x.told(12), 1);
        x = next();
        DUE.is("told(11)", x.told(11), 0);
        DUE.is("told(12)", x.told(12), 0);
        DUE.is("tastes(0)", x.tastes(0), 65535);
        DUE.is("tear()", x.tear(), 0);
    }

    private static void imagesGone() {
        DUE.sentence(3, "IMAGES, what could be undone are gone");
        DUE.is("goBack(0)", next().goBack(0), LastLaugh.NOT);
        DUE.is("goBack(1)", next().goBack(1), LastLaugh.NOT);
        LastLaugh x = used();
        x.hall();
        DUE.is("goBack(1) behind an empty text", x.goBack(1), LastLaugh.NOT);
    }

    private static void undoneGone() {
        DUE.sentence(3, "what could be undone are gone");
        LastLaugh x = used();
        DUE.is("told(13) of the used one", x.told(13), 2);
        x = next();
        DUE.is("told(13)", x.told(13), 0);
        DUE.is("undo(1)", x.undo(1), LastLaugh.NOT);
    }

    private static void seedStays() {
        DUE.sentence(3, "THE SEED stays");
        DUE.is("seed(0)", next().seed(0), 77);
        LastLaugh x = used();
        Due.feed(x, "?").hall();
        DUE.is("seed(0) behind a fault", x.seed(0), 77);
    }

    private static void allAsItWas() {
        DUE.sentence(3, "(all is as it was)");
        for (String text : new String[] {"?", "h9", "h0 0;h", "h0 0;l0 1 0;j0 1;l0 1 0;j0 1;l0 1 0;j0 1"}) {
            LastLaugh x = used();
            DUE.holds("a fault in '" + text + "'", Due.feed(x, text).hall() < -10);
            DUE.holds("as it was behind '" + text + "'", allButTheFault(x).equals(allButTheFault(used())));
        }
    }

    private static List<Integer> allButTheFault(LastLaugh x) {
        List<Integer> all = Twins.allOf(x);
        all.remove(all.size() - 3);
        return all;
    }

    // ---- promise 5

    private static void thereIsAHall() {
        DUE.sentence(5, "0 1 there is a HALL, 0 not");
        LastLaugh x = new LastLaugh();
        DUE.is("new", x.told(0), 0);
        Due.feed(x, "h0 0;");
        DUE.is("ahead of hall()", x.told(0), 0);
        x.hall();
        DUE.is("of nobody", x.told(0), 1);
        Due.feed(x, "?").hall();
        DUE.is("behind a fault", x.told(0), 1);
        x.hall();
        DUE.is("behind an empty text", x.told(0), 0);
    }

    private static void toldOutside() {
        DUE.sentence(5, "OUTSIDE");
        for (int what : new int[] {-1, 14, 15, MIN, MAX}) {
            DUE.is("new: told(" + what + ")", new LastLaugh().told(what), LastLaugh.OUTSIDE);
            DUE.is("told(" + what + ")", used().told(what), LastLaugh.OUTSIDE);
        }
        DUE.is("told(13)", used().told(13), 2);
    }

    private static void kingOfOne() {
        DUE.sentence(5, "KING: who is alone IN THE HALL");
        DUE.is("one lord", Due.hall("h0 0;l0 1 0;").told(9), 0);
        LastLaugh x = Due.hall("h0 0;l0 1 0;l0 1 0;l0 1 0;l0 1 0;l0 1 0;l0 1 0;j0 30;");
        x.tell(5, 0, 0);
        DUE.is("the last of six", x.told(9), 5);
    }

    private static void kingOfMoreOrNobody() {
        DUE.sentence(5, "(NONE: more are, or nobody)");
        DUE.is("two", Due.hall("h0 0;l0 1 0;l0 1 0;").told(9), LastLaugh.NONE);
        DUE.is("six", Due.hall("h0 0;l0 1 0;l0 1 0;l0 1 0;l0 1 0;l0 1 0;l0 1 0;").told(9), LastLaugh.NONE);
        DUE.is("nobody", Due.hall("h0 0;").told(9), LastLaugh.NONE);
        DUE.is("no hall", new LastLaugh().told(9), LastLaugh.NONE);
    }

    private static void outByTheLatest() {
        DUE.sentence(5, "10 who was OUT by the latest TELLING (a SET; 0)");
        LastLaugh x = Due.hall(TEXT);
        DUE.is("nothing was told", x.told(10), 0);
        x.tell(3, 0, 2);
        DUE.is("two were out", x.told(10), 6);
        x.night(1);
        DUE.is("a night behind it", x.told(10), 6);
        x.tell(0, 1, 3);
        DUE.is("nobody was by the next", x.told(10), 0);
    }

    private static void howManyCanBeUndone() {
        DUE.sentence(5, "13 how many can be undone");
        LastLaugh x = Due.hall("h5 0;l0 20 0;l1 20 0;j0 1;");
        for (int i = 1; i <= 33; i++) {
            x.tell(0, 0, 1);
            DUE.is("told(13) behind " + i, x.told(13), Math.min(30, i));
        }
        x.undo(30);
        DUE.is("told(13) behind undo(30)", x.told(13), 0);
    }

    // ---- promise 6

    private static void lordsNumbered() {
        DUE.sentence(6, "What has a number has it from 0 on, as it comes");
        LastLaugh x = Due.hall("h0 0;l0 1 10;j0 1;l1 2 11;j0 2;l2 3 12;l0 4 13;l1 5 14;l2 20 15;");
        int[] sads = {1, 2, 3, 4, 5, 20};
        for (int l = 0; l < 6; l++) {
            DUE.is("lord(" + l + ", 0)", x.lord(l, 0), l % 3);
            DUE.is("lord(" + l + ", 1)", x.lord(l, 1), sads[l]);
            DUE.is("lord(" + l + ", 2)", x.lord(l, 2), 10 + l);
            DUE.is("lord(" + l + ", 3)", x.lord(l, 3), sads[l]);
        }
    }

    private static void lordUnknown() {
        DUE.sentence(6, "UNKNOWN");
        LastLaugh x = Due.hall(TEXT);
        DUE.is("lord(3, 0), the last one", x.lord(3, 0), 2);
        for (int l : new int[] {-1, 4, 5, 6, 32, MIN, MAX}) DUE.is("lord(" + l + ", 0)", x.lord(l, 0), LastLaugh.UNKNOWN);
        DUE.is("of nobody: lord(0, 0)", Due.hall("h0 0;j0 1;").lord(0, 0), LastLaugh.UNKNOWN);
    }

    private static void lordOutside() {
        DUE.sentence(6, "OUTSIDE");
        LastLaugh x = Due.hall(TEXT);
        for (int what : new int[] {-1, 5, 6, MIN, MAX}) DUE.is("lord(0, " + what + ")", x.lord(0, what), LastLaugh.OUTSIDE);
        DUE.is("lord(0, 4)", x.lord(0, 4), LastLaugh.NONE);
    }

    private static void holdOneAtLeast() {
        DUE.sentence(6, "SAD less N for each NIGHT, 1 at least");
        LastLaugh x = Due.hall("h0 3;l0 20 0;l0 4 0;l0 3 0;l0 1 0;");
        int[][] due = {{17, 1, 1, 1}, {14, 1, 1, 1}, {11, 1, 1, 1}, {8, 1, 1, 1}, {5, 1, 1, 1}, {2, 1, 1, 1}, {1, 1, 1, 1}};
        for (int[] holds : due) {
            x.night(1);
            for (int l = 0; l < 4; l++) DUE.is("hold of " + l + " behind " + x.told(6) + " nights", x.lord(l, 3), holds[l]);
        }
        x.night(20);
        DUE.is("hold behind 27 nights", x.lord(0, 3), 1);
        DUE.is("sad yet", x.lord(0, 1), 20);
        x = Due.hall("h0 0;l0 20 0;");
        x.night(20);
        DUE.is("hunger that takes nothing", x.lord(0, 3), 20);
    }

    private static void tellingFromOneOn() {
        DUE.sentence(6, "4 the TELLING by which he was OUT (from 1 on; NONE)");
        LastLaugh x = Due.hall("h0 0;l0 20 0;l1 10 15;l2 10 15;j0 10;j0 10;j0 1;");
        DUE.is("ahead of all", x.lord(1, 4), LastLaugh.NONE);
        x.tell(0, 0, 1);
        DUE.is("by the first", x.lord(1, 4), 1);
        DUE.is("not by the first", x.lord(2, 4), LastLaugh.NONE);
        x.tell(0, 2, 2);
        x.tell(0, 1, 2);
        DUE.is("by the third", x.lord(2, 4), 3);
        DUE.is("by the first yet", x.lord(1, 4), 1);
        DUE.is("who is alone", x.lord(0, 4), LastLaugh.NONE);
    }

    // ---- promise 7

    private static void jokesNumbered() {
        DUE.sentence(7, "What has a number has it from 0 on, as it comes");
        LastLaugh x = Due.hall("h0 0;j0 1;j1 2;l0 1 0;j2 3;j3 4;j0 5;j1 30;");
        int[] funs = {1, 2, 3, 4, 5, 30};
        for (int j = 0; j < 6; j++) {
            DUE.is("joke(" + j + ", 0)", x.joke(j, 0), j % 4);
            DUE.is("joke(" + j + ", 1)", x.joke(j, 1), funs[j]);
        }
    }

    private static void jokeUnknown() {
        DUE.sentence(7, "UNKNOWN");
        LastLaugh x = Due.hall(TEXT);
        DUE.is("joke(1, 0), the last one", x.joke(1, 0), 1);
        for (int j : new int[] {-1, 2, 3, 6, 32, MIN, MAX}) DUE.is("joke(" + j + ", 0)", x.joke(j, 0), LastLaugh.UNKNOWN);
        DUE.is("without jokes: joke(0, 0)", Due.hall("h0 0;l0 1 0;").joke(0, 0), LastLaugh.UNKNOWN);
    }

    private static void jokeOutside() {
        DUE.sentence(7, "OUTSIDE");
        LastLaugh x = Due.hall(TEXT);
        for (int what : new int[] {-1, 4, 5, MIN, MAX}) DUE.is("joke(0, " + what + ")", x.joke(0, what), LastLaugh.OUTSIDE);
        DUE.is("joke(0, 3)", x.joke(0, 3), 0);
    }

    private static void funNow() {
        DUE.sentence(7, "FUN is worn: / 2 for each time that it was told (cut each time)");
        LastLaugh x = Due.hall("h5 0;l0 20 0;l1 20 0;j0 30;j0 1;j0 15;");
        int fun = 30;
        for (int times = 0; times <= 70; times++) {
            DUE.is("fun told " + times + " times", x.joke(0, 2), fun);
            DUE.is("fun as told", x.joke(0, 1), 30);
            x.tell(0, 0, 1);
            fun = fun / 2;
        }
        x.tell(0, 1, 1);
        x.tell(0, 2, 1);
        x.tell(0, 2, 1);
        DUE.is("1 / 2", x.joke(1, 2), 0);
        DUE.is("15 / 2 / 2", x.joke(2, 2), 3);
    }

    private static void asNightsHaveIt() {
        DUE.sentence(7, "3 how often it was told (as NIGHTS have it)");
        LastLaugh x = Due.hall("h5 0;l0 20 0;l1 20 0;j0 30;j0 29;");
        x.tell(0, 0, 1);
        x.tell(0, 0, 1);
        DUE.is("told twice", x.joke(0, 3), 2);
        x.night(1);
        DUE.is("a night behind it", x.joke(0, 3), 1);
        DUE.is("its fun", x.joke(0, 2), 15);
        DUE.is("never told", x.joke(1, 3), 0);
        x.night(1);
        DUE.is("two nights behind it", x.joke(0, 3), 0);
        x.night(1);
        DUE.is("three nights behind it", x.joke(0, 3), 0);
        x.tell(0, 0, 1);
        DUE.is("told again", x.joke(0, 3), 1);
        DUE.is("its fun then", x.joke(0, 2), 15);
    }
}
