/** Promises 21 to 26: each sentence on what was seen and the book that names a boundary has a test of its own. */
public final class SeenEdgesTest {
    private static final Due DUE = new Due();
    private static final int NONE = LastLaugh.NONE, ALL_TASTES = 65535;
    private static final String TWO = "h0 0;l0 10 1;l1 10 1;j0 10;";

    public static void main(String[] args) {
        sixSeen();
        seenHowMuch();
        seenOfWhoIsOut();
        tastesOfNothingSeen();
        tastesByTheLeastThatDoes();
        tastesByKind();
        tastesOfHimAlone();
        tastesThatCanNotBe();
        tastesWhateverTheHallIs();
        sadsOfNothingSeen();
        sadsUpToFun();
        sadsAboveFun();
        sadsNone();
        sadsWithHisOwnTastes();
        tellingsFrom0To999();
        setsOfLords();
        twentyEntries();
        bookWithoutAHall();
        judgeNone();
        judgeTheFirst();
        judgeAsManyTellings();
        tornOff();
        tornAndFilledAgain();
        DUE.end("SeenEdgesTest");
    }

    // ---- promise 21

    private static void sixSeen() {
        DUE.sentence(21, "FULL (6)");
        LastLaugh x = Due.hall(TWO);
        for (int i = 1; i <= 6; i++) DUE.is("see, the " + i + "th", x.see(i % 2, 0, true), i);
        DUE.is("see, the 7th", x.see(0, 0, true), LastLaugh.FULL);
        DUE.is("told(11)", x.told(11), 6);
        DUE.is("the 7th does not count", x.sads(1, 0), 1);
    }

    private static void seenHowMuch() {
        DUE.sentence(21, "SEEN: how much");
        LastLaugh x = Due.hall("h0 0;l0 1 0;l0 1 0;l0 1 0;l0 1 0;l0 1 0;l0 1 0;j0 1;j0 1;j0 1;j0 1;j0 1;j0 1;");
        DUE.is("nothing", x.told(11), 0);
        DUE.is("the first lord and joke", x.see(0, 0, false), 1);
        DUE.is("the last lord and joke", x.see(5, 5, true), 2);
        DUE.is("the same again", x.see(5, 5, true), 3);
        DUE.is("told(11)", x.told(11), 3);
    }

    private static void seenOfWhoIsOut() {
        DUE.sentence(21, "UNKNOWN, FULL (6)");
        LastLaugh x = Due.hall(TWO);
        x.tell(0, 0, 1);
        DUE.is("he is out, and there is no refusal for it", x.see(1, 0, true), 1);
        DUE.is("sads(1, 1)", x.sads(1, 1), 10);
    }

    // ---- promise 22

    private static void tastesOfNothingSeen() {
        DUE.sentence(22, "TASTES: the SET of SETS");
        LastLaugh x = Due.hall(TWO);
        DUE.is("nothing was seen", x.tastes(0), ALL_TASTES);
        x.see(1, 0, false);
        DUE.is("nothing was seen of him", x.tastes(0), ALL_TASTES);
    }

    private static void tastes(String text, boolean falls, int due) {
        LastLaugh x = Due.hall(text);
        x.see(0, 0, falls);
        DUE.is("tastes(0) in " + text + ", seen: " + falls, x.tastes(0), due);
    }

    /** With a taste for kind 0 he is amused by all of fun, without by half of it, cut. */
    private static void tastesByTheLeastThatDoes() {
        DUE.sentence(22, "a LORD would FALL, or not, at a JOKE told by another one who LOOKS at him");
        tastes("h0 0;l0 7 0;j0 7;", true, 0xaaaa);
        tastes("h0 0;l0 8 0;j0 7;", true, 0);
        tastes("h0 0;l0 3 0;j0 7;", true, ALL_TASTES);
        tastes("h0 0;l0 4 0;j0 7;", true, 0xaaaa);
        tastes("h0 0;l0 7 0;j0 7;", false, 0x5555);
        tastes("h0 0;l0 8 0;j0 7;", false, ALL_TASTES);
        tastes("h0 0;l0 3 0;j0 7;", false, 0);
        tastes("h0 0;l0 1 0;j0 1;", true, 0xaaaa);
        tastes("h0 0;l0 1 0;j0 1;", false, 0x5555);
        tastes("h0 0;l0 20 0;j0 30;", true, 0xaaaa);
        tastes("h0 0;l0 15 0;j0 30;", true, ALL_TASTES);
    }

    private static void tastesByKind() {
        DUE.sentence(22, "a SET of SETS (bit t: TASTES t)");
        tastes("h0 0;l0 9 0;j0 9;", true, 0xaaaa);
        tastes("h0 0;l0 9 0;j1 9;", true, 0xcccc);
        tastes("h0 0;l0 9 0;j2 9;", true, 0xf0f0);
        tastes("h0 0;l0 9 0;j3 9;", true, 0xff00);
        LastLaugh x = Due.hall("h0 0;l0 9 0;j0 9;j1 9;j2 9;j3 9;");
        for (int j = 0; j < 4; j++) x.see(0, j, true);
        DUE.is("a taste for all kinds", x.tastes(0), 1 << 15);
        x.tear();
        for (int j = 0; j < 4; j++) x.see(0, j, false);
        DUE.is("a taste for none", x.tastes(0), 1);
    }

    private static void tastesOfHimAlone() {
        DUE.sentence(22, "by which all that was SEEN of him is so");
        LastLaugh x = Due.hall("h0 0;l0 9 1;l1 9 1;j0 9;j1 9;");
        x.see(0, 0, true);
        x.see(1, 0, false);
        x.see(0, 1, false);
        DUE.is("tastes(0)", x.tastes(0), 0x2222);
        DUE.is("tastes(1)", x.tastes(1), 0x5555);
    }

    private static void tastesThatCanNotBe() {
        DUE.sentence(22, "TASTES of a LORD by which all that was SEEN of him is so");
        LastLaugh x = Due.hall("h0 0;l0 9 1;j0 9;j1 9;");
        x.see(0, 0, true);
        x.see(0, 0, false);
        DUE.is("both can not be", x.tastes(0), 0);
    }

    private static void tastesWhateverTheHallIs() {
        DUE.sentence(22, "nobody else being IN THE HALL, U and CATCHING not mattering, as nothing was told, NIGHT 0");
        LastLaugh x = Due.hall("h5 3;l0 9 0;l0 1 0;j0 9;");
        for (int i = 0; i < 5; i++) x.tell(0, 0, 1);
        x.night(3);
        x.tell(1, 0, 0);
        x.see(0, 0, true);
        DUE.is("tastes(0)", x.tastes(0), 0xaaaa);
        DUE.is("sads(1, 1)", x.sads(1, 1), 20);
        x.see(1, 0, true);
        DUE.is("sads(1, 1), by half of 9", x.sads(1, 1), 4);
    }

    // ---- promise 23

    private static void sads(String text, boolean falls, int least, int greatest) {
        LastLaugh x = Due.hall(text);
        x.see(0, 0, falls);
        DUE.is("sads(0, 0) in " + text + ", seen: " + falls, x.sads(0, 0), least);
        DUE.is("sads(0, 1) in " + text + ", seen: " + falls, x.sads(0, 1), greatest);
    }

    private static void sadsOfNothingSeen() {
        DUE.sentence(23, "the least and the greatest SAD (1 .. 20)");
        LastLaugh x = Due.hall(TWO);
        DUE.is("sads(0, 0)", x.sads(0, 0), 1);
        DUE.is("sads(0, 1)", x.sads(0, 1), 20);
        x.see(1, 0, true);
        DUE.is("sads(0, 1), seen of another one", x.sads(0, 1), 20);
        DUE.is("sads(1, 1)", x.sads(1, 1), 10);
    }

    private static void sadsUpToFun() {
        DUE.sentence(23, "what = 0 the least, 1 the greatest");
        sads("h0 0;l0 5 1;j0 1;", true, 1, 1);
        sads("h0 0;l0 5 1;j0 19;", true, 1, 19);
        sads("h0 0;l0 5 1;j0 20;", true, 1, 20);
        sads("h0 0;l0 5 1;j0 30;", true, 1, 20);
        sads("h0 0;l0 5 0;j0 30;", true, 1, 15);
        sads("h0 0;l0 5 0;j0 3;", true, 1, 1);
    }

    private static void sadsAboveFun() {
        DUE.sentence(23, "SADS: the least and the greatest SAD");
        sads("h0 0;l0 5 1;j0 1;", false, 2, 20);
        sads("h0 0;l0 5 0;j0 1;", false, 1, 20);
        sads("h0 0;l0 5 1;j0 19;", false, 20, 20);
        sads("h0 0;l0 5 0;j0 30;", false, 16, 20);
        LastLaugh x = Due.hall("h0 0;l0 5 3;j0 12;j1 7;");
        x.see(0, 0, true);
        x.see(0, 1, false);
        DUE.is("between them, the least", x.sads(0, 0), 8);
        DUE.is("between them, the greatest", x.sads(0, 1), 12);
    }

    private static void sadsNone() {
        DUE.sentence(23, "the greatest; NONE");
        sads("h0 0;l0 5 1;j0 20;", false, NONE, NONE);
        sads("h0 0;l0 5 1;j0 30;", false, NONE, NONE);
        sads("h0 0;l0 5 0;j0 1;", true, NONE, NONE);
        LastLaugh x = Due.hall("h0 0;l0 5 3;j0 12;j1 12;");
        x.see(0, 0, true);
        x.see(0, 1, false);
        DUE.is("sads(0, 0)", x.sads(0, 0), NONE);
        DUE.is("sads(0, 1)", x.sads(0, 1), NONE);
    }

    private static void sadsWithHisOwnTastes() {
        DUE.sentence(23, "with his own TASTES");
        sads("h0 0;l0 5 8;j3 14;", true, 1, 14);
        sads("h0 0;l0 5 7;j3 14;", true, 1, 7);
        sads("h0 0;l0 5 15;j3 14;", false, 15, 20);
        sads("h0 0;l0 5 0;j3 14;", false, 8, 20);
    }

    // ---- promise 24

    private static void tellingsFrom0To999() {
        DUE.sentence(24, "behind so many TELLINGS (0 .. 999, a SET)");
        LastLaugh x = Due.hall(TWO);
        DUE.is("write(0, 3)", x.write(0, 3), 1);
        DUE.is("write(999, 3)", x.write(999, 3), 2);
        DUE.is("write(-1, 3)", x.write(-1, 3), LastLaugh.OUTSIDE);
        DUE.is("write(1000, 3)", x.write(1000, 3), LastLaugh.OUTSIDE);
        DUE.is("told(12)", x.told(12), 2);
    }

    private static void setsOfLords() {
        DUE.sentence(24, "UNKNOWN (a LORD, JOKE, IMAGE that there is not; one twice; bits of such)");
        LastLaugh x = Due.hall(TWO);
        for (int set = 0; set <= 3; set++) DUE.is("write(0, " + set + ")", x.write(0, set), set + 1);
        DUE.is("write(0, 4)", x.write(0, 4), LastLaugh.UNKNOWN);
        DUE.is("write(0, -1)", x.write(0, -1), LastLaugh.UNKNOWN);
        x = Due.hall("h0 0;l0 1 0;l0 1 0;l0 1 0;l0 1 0;l0 1 0;l0 1 0;");
        DUE.is("six: write(0, 63)", x.write(0, 63), 1);
        DUE.is("six: write(0, 64)", x.write(0, 64), LastLaugh.UNKNOWN);
        x = Due.hall(TWO);
        x.tell(0, 0, 1);
        DUE.is("who is out may be in the book", x.write(1, 2), 1);
    }

    private static void twentyEntries() {
        DUE.sentence(24, "FULL (20)");
        LastLaugh x = Due.hall(TWO);
        for (int i = 1; i <= 20; i++) DUE.is("write, the " + i + "th", x.write(i == 20 ? 0 : i, i == 20 ? 1 : 3), i);
        DUE.is("write, the 21st", x.write(0, 0), LastLaugh.FULL);
        DUE.is("told(12)", x.told(12), 20);
        DUE.is("the 20th is wrong", x.judge(), 19);
    }

    private static void bookWithoutAHall() {
        DUE.sentence(24, "An entry behind THE BOOK: how many. UNKNOWN, OUTSIDE, FULL (20)");
        LastLaugh x = new LastLaugh();
        DUE.is("no hall: write(0, 0)", x.write(0, 0), 1);
        DUE.is("no hall: judge()", x.judge(), NONE);
        DUE.is("no hall: write(0, 1)", x.write(0, 1), LastLaugh.UNKNOWN);
        Due.feed(x, TWO).hall();
        DUE.is("a hall since: told(12)", x.told(12), 0);
    }

    // ---- promise 25

    private static void judgeNone() {
        DUE.sentence(25, "WRONG; NONE");
        LastLaugh x = Due.hall(TWO);
        DUE.is("an empty book", x.judge(), NONE);
        x.write(0, 3);
        DUE.is("it is so", x.judge(), NONE);
        x.write(1, 0);
        DUE.is("of no concern now", x.judge(), NONE);
    }

    private static void judgeTheFirst() {
        DUE.sentence(25, "WRONG: the first entry");
        LastLaugh x = Due.hall(TWO);
        x.write(0, 1);
        DUE.is("entry 0", x.judge(), 0);
        x = Due.hall(TWO);
        x.write(0, 3);
        x.write(1, 3);
        x.write(0, 0);
        x.write(0, 2);
        DUE.is("entry 2 of 2, 3", x.judge(), 2);
    }

    private static void judgeAsManyTellings() {
        DUE.sentence(25, "for just as many TELLINGS as there were by now that is otherwise");
        LastLaugh x = Due.hall("h0 0;l0 20 0;l1 10 1;l2 20 0;j0 10;");
        x.write(0, 7);
        x.write(1, 7);
        x.write(1, 5);
        x.write(2, 7);
        DUE.is("ahead of all", x.judge(), NONE);
        x.tell(0, 0, 1);
        DUE.is("behind one", x.judge(), 1);
        x.night(1);
        DUE.is("a night behind it", x.judge(), 1);
        x.tell(0, 0, 2);
        DUE.is("behind two", x.judge(), 3);
        x.tell(0, 0, 2);
        DUE.is("behind three", x.judge(), NONE);
        x.undo(2);
        DUE.is("undone", x.judge(), 1);
        x = Due.hall("h5 0;l0 20 0;l1 20 0;j0 30;");
        x.write(999, 0);
        x.write(0, 0);
        for (int i = 0; i < 24; i++) x.drift(40);
        x.drift(39);
        DUE.is("behind 999", x.judge(), 0);
        x.drift(1);
        DUE.is("behind 1000", x.judge(), NONE);
    }

    // ---- promise 26

    private static LastLaugh filled() {
        LastLaugh x = Due.hall(TWO);
        for (int i = 0; i < 6; i++) x.see(0, 0, false);
        for (int i = 0; i < 20; i++) x.write(0, 0);
        return x;
    }

    private static void tornOff() {
        DUE.sentence(26, "Nothing SEEN, no BOOK: how much both had");
        DUE.is("nothing", Due.hall(TWO).tear(), 0);
        DUE.is("no hall", new LastLaugh().tear(), 0);
        LastLaugh x = Due.hall(TWO);
        x.see(0, 0, true);
        DUE.is("one seen", x.tear(), 1);
        x.write(0, 0);
        x.write(0, 0);
        DUE.is("two entries", x.tear(), 2);
        x = filled();
        DUE.is("all of both", x.tear(), 26);
        DUE.is("told(11)", x.told(11), 0);
        DUE.is("told(12)", x.told(12), 0);
        DUE.is("judge()", x.judge(), NONE);
        DUE.is("tastes(0)", x.tastes(0), ALL_TASTES);
        DUE.is("sads(0, 1)", x.sads(0, 1), 20);
        DUE.is("again", x.tear(), 0);
    }

    private static void tornAndFilledAgain() {
        DUE.sentence(26, "Nothing SEEN, no BOOK");
        LastLaugh x = filled();
        x.tear();
        for (int i = 1; i <= 6; i++) DUE.is("see, the " + i + "th", x.see(0, 0, true), i);
        for (int i = 1; i <= 20; i++) DUE.is("write, the " + i + "th", x.write(0, 3), i);
        DUE.is("see, the 7th", x.see(0, 0, true), LastLaugh.FULL);
        DUE.is("write, the 21st", x.write(0, 0), LastLaugh.FULL);
        DUE.is("sads(0, 1)", x.sads(0, 1), 10);
        DUE.is("judge()", x.judge(), NONE);
        DUE.is("told(7): tear changes nothing else", x.told(7), 0);
    }
}
