/** Promises 8 and 9: each sentence on tellings and nights that names a boundary has a test of its own. */
public final class TellingsEdgesTest {
    private static final Due DUE = new Due();
    /** Nobody ever laughs. */
    private static final String DULL = "h5 0;l0 20 0;l1 20 0;j0 30;";

    public static void main(String[] args) {
        amusedOfHoldOrMore();
        halfWithoutTaste();
        halfIfNotLookedAt();
        leastAndGreatestFun();
        wornEachTime();
        wornWithoutWrapAround();
        understoodByUOrMore();
        understoodByNobody();
        understoodByTheOthers();
        understoodByThoseInTheHall();
        elseNobodyLaughs();
        caughtAtHoldOrLess();
        caughtAsLongAsMoreDo();
        notWhoTells();
        benchByBench();
        caughtInTheHall();
        caughtBehindANight();
        outFromThenOn();
        countedWhateverComes();
        allOfSixAndSix();
        tellingsAbove9000();
        nightsFromOneToTwenty();
        nightsAnswered();
        oneMoreNight();
        toldOneTimeLess();
        hungerTakesN();
        nightsOfNobody();
        nightsAbove900();
        DUE.end("TellingsEdgesTest");
    }

    /** Lord 0 tells joke 0 and looks at lord 1 in a new hall. */
    private static void out(String text, int due) {
        out(text, 1, due);
    }

    private static void out(String text, int at, int due) {
        DUE.is("tell(0, 0, " + at + ") in " + text, Due.hall(text).tell(0, 0, at), due);
    }

    // ---- promise 8

    private static void amusedOfHoldOrMore() {
        DUE.sentence(8, "He LAUGHS at AMUSED of HOLD or more");
        out("h0 0;l0 20 0;l1 6 1;j0 7;", 2);
        out("h0 0;l0 20 0;l1 7 1;j0 7;", 2);
        out("h0 0;l0 20 0;l1 8 1;j0 7;", 0);
    }

    private static void halfWithoutTaste() {
        DUE.sentence(8, "half of it (cut), if he has no TASTE for it");
        out("h0 0;l0 20 0;l1 3 0;j0 7;", 2);
        out("h0 0;l0 20 0;l1 4 0;j0 7;", 0);
        out("h0 0;l0 20 0;l1 4 14;j0 7;", 0);
        out("h0 0;l0 20 0;l1 7 8;j3 7;", 2);
        out("h0 0;l0 20 0;l1 7 7;j3 7;", 0);
    }

    private static void halfIfNotLookedAt() {
        DUE.sentence(8, "half of what is left (cut), if he is not looked at");
        out("h0 0;l0 20 0;l1 3 1;l2 20 0;j0 7;", 2, 2);
        out("h0 0;l0 20 0;l1 4 1;l2 20 0;j0 7;", 2, 0);
        out("h0 0;l0 20 0;l1 1 0;l2 20 0;j0 7;", 2, 2);
        out("h0 0;l0 20 0;l1 2 0;l2 20 0;j0 7;", 2, 0);
    }

    private static void leastAndGreatestFun() {
        DUE.sentence(8, "AMUSED is each of the others by FUN");
        out("h0 0;l0 20 0;l1 1 1;j0 1;", 2);
        out("h0 0;l0 20 0;l1 1 0;j0 1;", 0);
        out("h0 0;l0 20 0;l1 1 1;l2 20 0;j0 1;", 2, 0);
        out("h0 0;l0 20 0;l1 20 1;j0 30;", 2);
        out("h0 0;l0 20 0;l1 15 0;j0 30;", 2);
        out("h0 0;l0 20 0;l1 16 0;j0 30;", 0);
        out("h0 0;l0 20 0;l1 7 0;l2 20 0;j0 30;", 2, 2);
        out("h0 0;l0 20 0;l1 8 0;l2 20 0;j0 30;", 2, 0);
    }

    /** Lord 1 wears the joke himself: he does not laugh, and lord 0 never does. */
    private static void wornEachTime() {
        DUE.sentence(8, "FUN is worn: / 2 for each time that it was told (cut each time)");
        int[] due = {2, 2, 2, 0, 0};
        for (int times = 0; times < due.length; times++) {
            LastLaugh x = Due.hall("h0 0;l0 20 0;l1 3 1;j0 15;");
            for (int i = 0; i < times; i++) x.tell(1, 0, 0);
            DUE.is("behind " + times + " tellings", x.tell(0, 0, 1), due[times]);
        }
    }

    private static void wornWithoutWrapAround() {
        DUE.sentence(8, "/ 2 for each time that it was told");
        for (int times : new int[] {4, 5, 30, 31, 32, 33, 63, 64, 65, 96, 128, 255, 256}) {
            LastLaugh x = Due.hall("h0 0;l0 20 0;l1 1 1;j0 30;");
            for (int i = 0; i < times; i++) x.tell(1, 0, 0);
            DUE.is("a joke told " + times + " times", x.tell(0, 0, 1), times < 5 ? 2 : 0);
        }
    }

    private static void understoodByUOrMore() {
        DUE.sentence(8, "UNDERSTOOD: if U or more");
        String three = "l0 1 1;l1 1 1;l2 1 1;j0 30;";
        out("h0 0;" + three, 6);
        out("h1 0;" + three, 6);
        out("h2 0;" + three, 6);
        out("h3 0;" + three, 0);
        out("h5 0;l0 1 0;l0 1 1;l0 1 1;l1 1 1;l1 1 1;l2 1 1;j0 30;", 62);
        out("h5 0;l0 1 1;l0 1 1;l0 1 1;l1 1 1;l1 1 1;l2 1 14;j0 30;", 0);
    }

    private static void understoodByNobody() {
        DUE.sentence(8, "a JOKE must be understood by U, 0 .. 5");
        out("h0 0;l0 1 0;l1 1 0;j0 30;", 2);
        out("h1 0;l0 1 0;l1 1 0;j0 30;", 0);
    }

    private static void understoodByTheOthers() {
        DUE.sentence(8, "of the others IN THE HALL have a TASTE for its KIND");
        out("h1 0;l0 1 1;l1 1 0;j0 30;", 0);
        out("h1 0;l0 1 0;l1 1 1;j0 30;", 2);
        out("h1 0;l0 1 0;l1 1 13;j1 30;", 0);
        out("h1 0;l0 1 0;l1 1 2;j1 30;", 2);
        // Who understands it need not laugh.
        out("h1 0;l0 1 0;l1 1 0;l2 20 1;j0 8;", 2);
    }

    private static void understoodByThoseInTheHall() {
        DUE.sentence(8, "of the others IN THE HALL");
        LastLaugh x = Due.hall("h1 0;l0 20 0;l1 1 1;l2 15 0;j0 1;j0 30;");
        DUE.is("who understands it goes", x.tell(0, 0, 1), 2);
        DUE.is("nobody is left who understands it", x.tell(0, 1, 2), 0);
        DUE.is("with him it would do", Due.hall("h1 0;l0 20 0;l1 1 1;l2 15 0;j0 1;j0 30;").tell(0, 1, 2), 6);
    }

    private static void elseNobodyLaughs() {
        DUE.sentence(8, "else nobody laughs");
        LastLaugh x = Due.hall("h2 0;l0 1 1;l0 1 1;l0 1 0;l1 1 0;j0 30;");
        DUE.is("tell(0, 0, 1)", x.tell(0, 0, 1), 0);
        DUE.is("all are in", x.told(8), 15);
        DUE.is("tell(2, 0, 1)", x.tell(2, 0, 1), 11);
    }

    private static void caughtAtHoldOrLess() {
        DUE.sentence(8, "if 3 times as many as LAUGH on it are his HOLD or more");
        String one = "h0 0;l1 20 0;l0 1 1;j0 1;";
        out(one + "l0 3 0;", 6);
        out(one + "l0 4 0;", 2);
        out(one + "l0 3 0;l0 6 0;", 14);
        out(one + "l0 3 0;l0 7 0;", 6);
        out(one + "l0 3 0;l0 6 0;l0 9 0;l0 12 0;", 62);
        out(one + "l0 3 0;l0 6 0;l0 9 0;l0 13 0;", 30);
    }

    private static void caughtAsLongAsMoreDo() {
        DUE.sentence(8, "as long as more do");
        DUE.is("the last ones first", Due.hall("h0 0;l0 12 0;l0 9 0;l0 6 0;l0 3 0;l0 1 1;l1 20 0;j0 1;").tell(5, 0, 4), 31);
        DUE.is("up to the one too sad", Due.hall("h0 0;l0 12 0;l0 10 0;l0 6 0;l0 3 0;l0 1 1;l1 20 0;j0 1;").tell(5, 0, 4), 28);
    }

    private static void notWhoTells() {
        DUE.sentence(8, "(not who TELLS)");
        out("h0 0;l0 1 1;l0 1 1;j0 1;", 2);
        out("h0 0;l0 1 1;l0 1 1;l0 3 0;j0 1;", 6);
        // He would be the second one that laughs on the bench.
        out("h0 0;l0 1 1;l0 1 1;l0 6 0;j0 1;", 2);
    }

    private static void benchByBench() {
        DUE.sentence(8, "CATCHING: then, BENCH by BENCH");
        // One laughs on bench 0, one on bench 1: 3 each, not 6.
        out("h0 0;l2 20 0;l0 1 1;l1 1 1;l1 6 0;j0 2;", 6);
        out("h0 0;l2 20 0;l0 1 1;l1 1 1;l1 3 0;j0 2;", 14);
        // Benches 0 and 1 catch it, each by itself; on bench 2 nobody laughs.
        out("h0 0;l0 20 0;l0 1 1;l0 3 0;l1 1 1;l1 3 0;l2 3 0;j0 2;", 30);
        // On bench 2, the last one, too.
        out("h0 0;l0 20 0;l2 1 1;l2 3 0;l1 3 0;j0 2;", 6);
    }

    private static void caughtInTheHall() {
        DUE.sentence(8, "any other one IN THE HALL on it");
        LastLaugh x = Due.hall("h0 0;l1 20 0;l0 1 1;l0 3 0;l0 9 0;l0 20 4;j0 1;j2 20;");
        DUE.is("two go", x.tell(0, 0, 1), 6);
        // Were those that are out counted, three would laugh, and lord 3 with them.
        DUE.is("one laughs", x.tell(0, 1, 4), 16);
    }

    private static void caughtBehindANight() {
        DUE.sentence(8, "HOLD of a LORD: SAD less N for each NIGHT");
        LastLaugh x = Due.hall("h0 1;l1 20 0;l0 1 1;l0 4 0;j0 1;");
        DUE.is("ahead of the night", x.falls(0, 0, 1), 2);
        x.night(1);
        DUE.is("behind it", x.tell(0, 0, 1), 6);
    }

    private static void outFromThenOn() {
        DUE.sentence(8, "All that LAUGHED are OUT from then on");
        LastLaugh x = Due.hall("h0 0;l1 20 0;l0 1 1;l0 3 0;l2 1 0;j0 1;j0 30;");
        x.tell(0, 0, 1);
        DUE.is("in the hall", x.told(8), 9);
        DUE.is("who caught it tells", x.tell(2, 0, 0), LastLaugh.NOT);
        DUE.is("who laughed is looked at", x.tell(0, 0, 1), LastLaugh.NOT);
        DUE.is("only who is in the hall falls", x.tell(0, 1, 3), 8);
        x.night(1);
        DUE.is("a night brings nobody in", x.told(8), 1);
    }

    private static void countedWhateverComes() {
        DUE.sentence(8, "TELLINGS are counted, whatever comes of them");
        LastLaugh x = Due.hall(DULL);
        x.tell(0, 0, 1);
        DUE.is("not understood: told(7)", x.told(7), 1);
        DUE.is("not understood: joke(0, 3)", x.joke(0, 3), 1);
        DUE.is("not understood: told(13)", x.told(13), 1);
        x = Due.hall("h0 0;l0 20 0;l1 20 0;j0 1;");
        x.tell(0, 0, 1);
        DUE.is("nobody laughs: told(7)", x.told(7), 1);
        DUE.is("nobody laughs: joke(0, 3)", x.joke(0, 3), 1);
        x.tell(0, 0, 0);
        DUE.is("refused: told(7)", x.told(7), 1);
    }

    private static void allOfSixAndSix() {
        DUE.sentence(8, "6 LORDS at most");
        String text = "h0 0;l0 1 1;l0 1 1;l1 1 1;l1 1 1;l2 1 1;l2 1 1;j0 1;j0 1;j0 1;j0 1;j0 1;j0 30;";
        for (int l = 0; l < 6; l++) DUE.is("tell(" + l + ", 5, ..)", Due.hall(text).tell(l, 5, 5 - l), 63 & ~(1 << l));
        DUE.is("tell(5, 4, 0)", Due.hall(text).tell(5, 4, 0), 3);
        DUE.is("tell(5, 6, 0)", Due.hall(text).tell(5, 6, 0), LastLaugh.UNKNOWN);
        DUE.is("tell(6, 5, 0)", Due.hall(text).tell(6, 5, 0), LastLaugh.UNKNOWN);
    }

    private static void tellingsAbove9000() {
        DUE.sentence(8, "FULL: TELLINGS are above 9000");
        LastLaugh x = Due.hall(DULL);
        for (int i = 0; i < 225; i++) x.drift(40);
        DUE.is("told(7)", x.told(7), 9000);
        DUE.is("one more at 9000", x.tell(0, 0, 1), 0);
        DUE.is("told(7)", x.told(7), 9001);
        DUE.is("one more at 9001", x.tell(0, 0, 1), LastLaugh.FULL);
        x.undo(1);
        DUE.is("one undone", x.tell(0, 0, 1), 0);
        DUE.is("at 9001 again", x.tell(1, 0, 0), LastLaugh.FULL);
    }

    // ---- promise 9

    private static void nightsFromOneToTwenty() {
        DUE.sentence(9, "n NIGHTS (1 .. 20)");
        DUE.is("night(1)", Due.hall(DULL).night(1), 1);
        DUE.is("night(20)", Due.hall(DULL).night(20), 20);
        DUE.is("night(0)", Due.hall(DULL).night(0), LastLaugh.OUTSIDE);
        DUE.is("night(21)", Due.hall(DULL).night(21), LastLaugh.OUTSIDE);
    }

    private static void nightsAnswered() {
        DUE.sentence(9, "n NIGHTS (1 .. 20): NIGHTS");
        LastLaugh x = Due.hall(DULL);
        x.night(3);
        DUE.is("night(2) behind night(3)", x.night(2), 5);
        DUE.is("told(6)", x.told(6), 5);
        DUE.is("told(7)", x.told(7), 0);
    }

    private static void oneMoreNight() {
        DUE.sentence(9, "NIGHTS are one more");
        LastLaugh x = Due.hall(DULL);
        for (int n = 1; n <= 25; n++) DUE.is("night(1)", x.night(1), n);
    }

    private static void toldOneTimeLess() {
        DUE.sentence(9, "each JOKE was told one time less, if it was at all");
        LastLaugh x = Due.hall("h5 0;l0 20 0;l1 20 0;j0 1;j0 1;j0 1;j0 1;j0 1;j0 1;");
        for (int j = 1; j < 6; j++) {
            for (int i = 0; i < j; i++) x.tell(0, j, 1);
        }
        for (int nights = 0; nights <= 6; nights++) {
            for (int j = 0; j < 6; j++) DUE.is("joke " + j + " behind " + nights + " nights", x.joke(j, 3), Math.max(0, j - nights));
            x.night(1);
        }
        x = Due.hall(DULL);
        for (int i = 0; i < 3; i++) x.tell(0, 0, 1);
        x.night(2);
        DUE.is("told 3 times, behind night(2)", x.joke(0, 3), 1);
        x.night(20);
        x.tell(0, 0, 1);
        DUE.is("told once behind many nights", x.joke(0, 3), 1);
    }

    private static void hungerTakesN() {
        DUE.sentence(9, "hunger takes N a NIGHT, 0 .. 3");
        for (int n = 0; n <= 3; n++) {
            LastLaugh x = Due.hall("h0 " + n + ";l0 20 0;l1 20 0;");
            x.night(4);
            DUE.is("hold behind 4 nights of " + n, x.lord(0, 3), 20 - 4 * n);
            x.night(20);
            DUE.is("hold behind 24 nights of " + n, x.lord(1, 3), n == 0 ? 20 : 1);
        }
        LastLaugh x = Due.hall("h0 3;l0 20 0;l1 20 1;j0 1;");
        x.night(6);
        DUE.is("hold of 2", x.falls(0, 0, 1), 0);
        x.night(1);
        DUE.is("hold of 1, not less", x.falls(0, 0, 1), 2);
        x.tell(1, 0, 0);
        DUE.is("fun of 0 amuses nobody, whatever the hunger", x.falls(0, 0, 1), 0);
        x.night(20);
        x.tell(1, 0, 0);
        DUE.is("nor behind more of it", x.falls(0, 0, 1), 0);
    }

    private static void nightsOfNobody() {
        DUE.sentence(9, "NOT: no HALL");
        DUE.is("a hall of nobody", Due.hall("h0 0;").night(20), 20);
        DUE.is("no hall", new LastLaugh().night(20), LastLaugh.NOT);
        LastLaugh x = Due.hall("h0 0;");
        x.hall();
        DUE.is("no hall any more", x.night(1), LastLaugh.NOT);
        x = Due.feed(new LastLaugh(), "h0 0");
        x.hall();
        DUE.is("no hall by a fault", x.night(1), LastLaugh.NOT);
    }

    private static void nightsAbove900() {
        DUE.sentence(9, "FULL: NIGHTS are above 900");
        LastLaugh x = Due.hall("h0 3;l0 20 0;");
        for (int i = 1; i <= 45; i++) DUE.is("night(20)", x.night(20), 20 * i);
        DUE.is("one more at 900", x.night(1), 901);
        DUE.is("one more at 901", x.night(1), LastLaugh.FULL);
        x.undo(1);
        DUE.is("20 more at 900", x.night(20), 920);
        DUE.is("hold behind them", x.lord(0, 3), 1);
        DUE.is("one more at 920", x.night(20), LastLaugh.FULL);
        DUE.is("told(6)", x.told(6), 920);
    }
}
