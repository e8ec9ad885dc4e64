/** Promises 1 to 7: a new object, the text, its faults, and what can be asked of the hall. */
public final class HallTest {
    private static final Due DUE = new Due();

    public static void main(String[] args) {
        newObject();
        feeding();
        hallAndFault();
        firstFaults();
        whatAFaultLeaves();
        whatANewHallEnds();
        emptyTexts();
        toldOfTheHall();
        lordsAndJokes();
        DUE.end("HallTest");
    }

    /** Promise 1. */
    private static void newObject() {
        LastLaugh x = new LastLaugh();
        int[] due = {0, 0, 0, 0, 0, 0, 0, 0, 0, -1, 0, 0, 0, 0};
        for (int what = 0; what < due.length; what++) DUE.is("new: told(" + what + ")", x.told(what), due[what]);
        DUE.is("new: fault()", x.fault(), LastLaugh.NONE);
        DUE.is("new: seed(5)", x.seed(5), 0);
        DUE.is("new: lord(0, 0)", x.lord(0, 0), LastLaugh.UNKNOWN);
        DUE.is("new: joke(0, 0)", x.joke(0, 0), LastLaugh.UNKNOWN);
        DUE.is("new: tell(0, 0, 1)", x.tell(0, 0, 1), LastLaugh.UNKNOWN);
        DUE.is("new: night(1)", x.night(1), LastLaugh.NOT);
        DUE.is("new: night(0)", x.night(0), LastLaugh.OUTSIDE);
        DUE.is("new: drift(1)", x.drift(1), LastLaugh.NOT);
        DUE.is("new: drift(41)", x.drift(41), LastLaugh.OUTSIDE);
        DUE.is("new: undo(1)", x.undo(1), LastLaugh.NOT);
        DUE.is("new: safe()", x.safe(), 0);
        DUE.is("new: wired(0)", x.wired(0), 0);
        DUE.is("new: wired(1)", x.wired(1), LastLaugh.UNKNOWN);
        DUE.is("new: judge()", x.judge(), LastLaugh.NONE);
        DUE.is("new: tear()", x.tear(), 0);
        DUE.is("new: goBack(0)", x.goBack(0), LastLaugh.NOT);
    }

    /** Promise 2. */
    private static void feeding() {
        LastLaugh x = new LastLaugh();
        DUE.is("feed(-1)", x.feed(-1), LastLaugh.OUTSIDE);
        DUE.is("feed(256)", x.feed(256), LastLaugh.OUTSIDE);
        DUE.is("feed(0)", x.feed(0), 1);
        DUE.is("feed(255)", x.feed(255), 2);
        for (int i = 3; i <= 200; i++) DUE.is("feed, the " + i + "th", x.feed(' '), i);
        DUE.is("feed behind 200", x.feed(' '), LastLaugh.FULL);
        DUE.is("feed(256) behind 200", x.feed(256), LastLaugh.OUTSIDE);
        DUE.is("told(5) behind 200", x.told(5), 200);
        DUE.is("hall of a letter 0", x.hall(), -11);
        DUE.is("its fault", x.fault(), 0);
        DUE.is("told(5) behind hall()", x.told(5), 0);
    }

    private static void fault(String text, int answer, int where) {
        LastLaugh x = Due.feed(new LastLaugh(), text);
        DUE.is("hall() of '" + text + "'", x.hall(), answer);
        DUE.is("fault() of '" + text + "'", x.fault(), where);
        DUE.is("letters behind '" + text + "'", x.told(5), 0);
        DUE.is("told(0) behind '" + text + "'", x.told(0), answer < 0 ? 0 : 1);
    }

    /** Promises 3 and 4: texts that can stand. */
    private static void hallAndFault() {
        fault("h0 0;", 0, -1);
        fault("h5 3;l2 20 15;l0 1 0;j3 30;j0 1;", 2, -1);
        fault("  h 005   003 ;l 2 020 015;", 1, -1);
        fault("h0 0;j0 1;l0 1 0;j0 1;l0 1 0;  ", 2, -1);
        fault("h0 0;l0 1 0;l0 1 0;l0 1 0;l0 1 0;l0 1 0;l0 1 0;j0 1;j0 1;j0 1;j0 1;j0 1;j0 1;", 6, -1);
    }

    /** Promises 3 and 4: of several faults the first, and at one letter the least. */
    private static void firstFaults() {
        fault("x", -11, 0);
        fault(" ;", -11, 1);
        fault("0", -11, 0);
        fault("H0 0;", -11, 0);
        fault("j0 1;h0 0;", -11, 0);
        fault("h", -11, 1);
        fault("h0", -11, 2);
        fault("h0 0", -11, 4);
        fault("h0 0  ", -11, 6);
        fault("h00;", -11, 3);
        fault("h0 0 0;", -11, 5);
        fault("h0 0 9999;", -11, 5);
        fault("h0 h", -11, 3);
        fault("h0 0 h", -11, 5);
        fault("h0 0;x", -11, 5);
        fault("h0 0;;", -11, 5);
        fault("h0 0;5", -11, 5);
        fault("h0 0;\t", -11, 5);
        fault("h0 0;l0 1 x;", -11, 10);
        fault("h0,0;", -11, 2);
        fault("h-1 0;", -11, 1);
        fault("h6 x", -12, 1);
        fault("h6", -12, 1);
        fault("h0 0000;", -12, 3);
        fault("h0001 0;", -12, 1);
        fault("h0 99999999999999999999;", -12, 3);
        fault("h0 0;l0 0 x", -12, 8);
        fault("h0 0;l2 20 16;", -12, 11);
        fault("h0 0;j3 31;", -12, 8);
        fault("h0 4;", -12, 3);
        fault("h0 0;l3 1 0;", -12, 6);
        fault("h0 0;l0 21 0;", -12, 8);
        fault("h0 0;j4 1;", -12, 6);
        fault("h0 0;j0 0;", -12, 8);
        fault("h0 0;h9 9;", -13, 5);
        fault("h0 0; h", -13, 6);
        fault("h0 0;l0 1 0;l0 1 0;l0 1 0;l0 1 0;l0 1 0;l0 1 0;l", -13, 47);
        fault("h0 0;j0 1;j0 1;j0 1;j0 1;j0 1;j0 1;j0 1;", -13, 35);
    }

    private static void whatAFaultLeaves() {
        LastLaugh x = Due.hall("h1 1;l0 6 1;l1 4 1;l1 9 0;j0 12;");
        x.seed(77);
        x.tell(0, 0, 1);
        x.night(2);
        x.see(0, 0, true);
        x.write(1, 1);
        Due.feed(x, "h0 0;l0 1 1;j0 1");
        DUE.is("hall() with a fault", x.hall(), -11);
        DUE.is("fault() of it", x.fault(), 16);
        int[] due = {1, 1, 1, 3, 1, 0, 2, 1, 5, -1, 2, 1, 1, 3};
        for (int what = 0; what < due.length; what++) DUE.is("as it was: told(" + what + ")", x.told(what), due[what]);
        DUE.is("as it was: lord(2, 1)", x.lord(2, 1), 9);
        DUE.is("as it was: joke(0, 1)", x.joke(0, 1), 12);
        DUE.is("as it was: undo(3)", x.undo(3), 0);
        DUE.is("as it was: seed(0)", x.seed(0), 77);
        DUE.is("a fault behind a fault", Due.feed(x, "h9").hall(), -12);
        DUE.is("the latest fault", x.fault(), 1);
    }

    private static void whatANewHallEnds() {
        LastLaugh x = Due.hall("h1 1;l0 6 1;l1 4 1;l1 9 0;j0 12;");
        x.seed(77);
        x.keep(1);
        x.tell(0, 0, 1);
        x.night(2);
        x.see(0, 0, true);
        x.write(1, 1);
        Due.feed(x, "h9").hall();
        Due.feed(x, "h2 3;l0 5 1;l1 4 1;j2 9;j1 3;");
        DUE.is("the next hall()", x.hall(), 2);
        DUE.is("its fault()", x.fault(), -1);
        int[] due = {1, 2, 3, 2, 2, 0, 0, 0, 3, -1, 0, 0, 0, 0};
        for (int what = 0; what < due.length; what++) DUE.is("next hall: told(" + what + ")", x.told(what), due[what]);
        DUE.is("next hall: lord(1, 4)", x.lord(1, 4), -1);
        DUE.is("next hall: joke(0, 3)", x.joke(0, 3), 0);
        DUE.is("next hall: lord(2, 0)", x.lord(2, 0), LastLaugh.UNKNOWN);
        DUE.is("next hall: goBack(1)", x.goBack(1), LastLaugh.NOT);
        DUE.is("next hall: undo(1)", x.undo(1), LastLaugh.NOT);
        DUE.is("the seed stays", x.seed(0), 77);
    }

    private static void emptyTexts() {
        for (String text : new String[] {"", "   "}) {
            LastLaugh x = Due.hall("h1 1;l0 6 1;l1 4 1;j0 12;");
            x.keep(0);
            x.see(0, 0, true);
            Due.feed(x, text);
            DUE.is("hall() of '" + text + "'", x.hall(), 0);
            DUE.is("fault() of it", x.fault(), -1);
            int[] due = {0, 0, 0, 0, 0, 0, 0, 0, 0, -1, 0, 0, 0, 0};
            for (int what = 0; what < due.length; what++) DUE.is("no hall: told(" + what + ")", x.told(what), due[what]);
            DUE.is("no hall: goBack(0)", x.goBack(0), LastLaugh.NOT);
            DUE.is("no hall: night(1)", x.night(1), LastLaugh.NOT);
            DUE.is("no hall: tastes(0)", x.tastes(0), LastLaugh.UNKNOWN);
        }
    }

    /** Promise 5. */
    private static void toldOfTheHall() {
        LastLaugh x = Due.hall("h1 2;l0 8 1;l0 3 0;l1 6 1;j0 12;j1 20;");
        x.feed('h');
        x.feed(' ');
        x.night(1);
        x.see(0, 0, true);
        x.see(1, 0, true);
        x.write(0, 7);
        x.tell(0, 0, 2);
        int[] due = {1, 1, 2, 3, 2, 2, 1, 1, 1, 0, 6, 2, 1, 2};
        for (int what = 0; what < due.length; what++) DUE.is("told(" + what + ")", x.told(what), due[what]);
        DUE.is("told(-1)", x.told(-1), LastLaugh.OUTSIDE);
        DUE.is("told(14)", x.told(14), LastLaugh.OUTSIDE);
        x = Due.hall("h0 0;l1 1 1;");
        DUE.is("king of one lord", x.told(9), 0);
        x = Due.hall("h0 0;");
        DUE.is("king of nobody", x.told(9), -1);
        DUE.is("a hall of nobody", x.told(0), 1);
        DUE.is("night in a hall of nobody", x.night(3), 3);
        DUE.is("drift in a hall of nobody", x.drift(3), 0);
    }

    /** Promises 6 and 7. */
    private static void lordsAndJokes() {
        LastLaugh x = Due.hall("h0 3;l2 8 5;l1 7 15;l0 20 0;j3 30;j1 7;");
        int[][] lords = {{2, 8, 5, 8, -1}, {1, 7, 15, 7, -1}, {0, 20, 0, 20, -1}};
        for (int l = 0; l < 3; l++) {
            for (int what = 0; what < 5; what++) DUE.is("lord(" + l + ", " + what + ")", x.lord(l, what), lords[l][what]);
        }
        x.night(2);
        DUE.is("hold of 8 behind 2 nights", x.lord(0, 3), 2);
        x.night(1);
        DUE.is("hold is 1 at least", x.lord(0, 3), 1);
        DUE.is("sad stays", x.lord(0, 1), 8);
        DUE.is("hold of 20 behind 3 nights", x.lord(2, 3), 11);
        DUE.is("lord(3, 0)", x.lord(3, 0), LastLaugh.UNKNOWN);
        DUE.is("lord(-1, 9)", x.lord(-1, 9), LastLaugh.UNKNOWN);
        DUE.is("lord(0, 5)", x.lord(0, 5), LastLaugh.OUTSIDE);
        DUE.is("lord(0, -1)", x.lord(0, -1), LastLaugh.OUTSIDE);
        DUE.is("joke(2, 0)", x.joke(2, 0), LastLaugh.UNKNOWN);
        DUE.is("joke(-1, 4)", x.joke(-1, 4), LastLaugh.UNKNOWN);
        DUE.is("joke(0, 4)", x.joke(0, 4), LastLaugh.OUTSIDE);
        DUE.is("joke(1, -1)", x.joke(1, -1), LastLaugh.OUTSIDE);
        x.tell(0, 1, 1);
        DUE.is("out by the first telling", x.lord(1, 4), 1);
        DUE.is("not out", x.lord(2, 4), -1);
        wornJoke();
    }

    private static void wornJoke() {
        LastLaugh x = Due.hall("h5 0;l0 1 15;l0 1 15;j3 30;j1 7;");
        int[] fun = {30, 15, 7, 3, 1, 0, 0};
        for (int i = 0; i < fun.length; i++) {
            int[] due = {3, 30, fun[i], i};
            for (int what = 0; what < 4; what++) DUE.is("told " + i + " times: joke(0, " + what + ")", x.joke(0, what), due[what]);
            x.tell(0, 0, 1);
        }
        DUE.is("the other joke's fun", x.joke(1, 2), 7);
        for (int i = fun.length; i < 70; i++) {
            DUE.is("fun of a joke told " + i + " times", x.joke(0, 2), 0);
            x.tell(0, 0, 1);
        }
    }
}
