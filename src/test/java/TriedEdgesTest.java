import java.util.function.ToIntFunction;

/** Promises 12 to 20: each sentence on what is tried that names a boundary has a test of its own. */
public final class TriedEdgesTest {
    private static final Due DUE = new Due();
    private static final int NONE = LastLaugh.NONE, MIN = Integer.MIN_VALUE, MAX = Integer.MAX_VALUE;
    /** Each of lords 1, 2, 3 laughs only if looked at, and only at a joke of fun 10 or more. */
    private static final String ONE_BY_ONE = "h0 0;l0 20 0;l0 10 15;l1 10 15;l2 10 15;";
    private static final String ALONE = "h0 0;l0 1 1;j0 9;";
    private static final String NO_JOKES = "h0 0;l0 1 1;l0 1 1;";
    private static final String FIVE = "h0 0;l0 20 0;l0 20 0;l1 20 0;l1 20 0;l2 20 0;", SIX = FIVE + "l2 20 0;";
    private static final String SIX_JOKES = "j0 1;j0 1;j0 1;j0 1;j0 1;j0 1;";

    public static void main(String[] args) {
        nothingChanges();
        fallsAsTold();
        fallsAbove9000();
        aloneAlready();
        aloneWithoutJokes();
        aloneInThreeAtMost();
        aloneTheIth();
        aloneOfLikeOnes();
        aloneFromNow();
        aloneByLooksInTheHall();
        duelOfOneToThree();
        duelNeither();
        duelLost();
        duelWithAnyLook();
        duelEndsWithWhoIsOut();
        duelWithoutJokes();
        duelFirstThing();
        duelByLooksInTheHall();
        safeInTheHall();
        safeByAnyone();
        safeFromWhoIsOut();
        safeFromCatching();
        drawsByCatching();
        drawsInTheHall();
        coverOfNobody();
        coverFewest();
        coverLeast();
        coverNone();
        coverNotBehindOneAnother();
        coverOfTheSixth();
        toldHowMany();
        toldTheIth();
        toldJustTheSet();
        toldTheLeastThing();
        toldByLooksInTheHall();
        sureOfJokes();
        wiredByAnyone();
        wiredByNobody();
        DUE.end("TriedEdgesTest");
    }

    /** Lords 1 and 2 are out, 0 and 3 are in the hall; a telling and a night can be undone, both images are kept. */
    private static LastLaugh used() {
        LastLaugh x = Due.hall("h1 1;l0 8 1;l0 3 0;l1 6 1;l2 18 3;j0 12;j1 10;");
        x.keep(0);
        x.tell(3, 0, 2);
        x.keep(1);
        x.night(1);
        x.tell(0, 1, 3);
        x.see(0, 0, true);
        x.write(2, 8);
        Due.feed(x, "h9");
        return x;
    }

    private static LastLaugh ahead() {
        LastLaugh x = Due.hall(ONE_BY_ONE + "j0 10;j1 30;j2 10;");
        x.seed(5);
        x.tell(0, 2, 1);
        return x;
    }

    private static void unchanged(int promise, String call, ToIntFunction<LastLaugh> on) {
        DUE.sentence(promise, "TRIED from now; nothing changes by it");
        DUE.holds(call + " changes nothing", Twins.staysAlike(TriedEdgesTest::used, on));
        DUE.holds(call + " changes nothing", Twins.staysAlike(TriedEdgesTest::ahead, on));
        LastLaugh x = ahead();
        DUE.is(call + " again", on.applyAsInt(x), on.applyAsInt(x));
    }

    private static void nothingChanges() {
        unchanged(12, "falls(0, 1, 3)", x -> x.falls(0, 1, 3));
        unchanged(12, "falls(3, 0, 0)", x -> x.falls(3, 0, 0));
        for (int i = NONE; i <= 2; i++) {
            int at = i;
            unchanged(13, "alone(0, " + at + ")", x -> x.alone(0, at));
            unchanged(13, "alone(3, " + at + ")", x -> x.alone(3, at));
        }
        for (int n = 1; n <= 3; n++) {
            int many = n;
            unchanged(14, "duel(0, 3, " + n + ", 0)", x -> x.duel(0, 3, many, 0));
            unchanged(14, "duel(3, 0, " + n + ", 1)", x -> x.duel(3, 0, many, 1));
        }
        unchanged(15, "safe()", x -> x.safe());
        unchanged(16, "draws(0)", x -> x.draws(0));
        unchanged(17, "cover(0)", x -> x.cover(0));
        unchanged(18, "toldBy(0, 8, NONE)", x -> x.toldBy(0, 8, NONE));
        unchanged(18, "toldBy(0, 8, 0)", x -> x.toldBy(0, 8, 0));
        unchanged(19, "sure(0, 8)", x -> x.sure(0, 8));
        unchanged(20, "wired(8)", x -> x.wired(8));
    }

    // ---- promise 12

    private static void fallsAsTold() {
        DUE.sentence(12, "those that would be OUT by it (a SET)");
        String text = "h1 1;l0 6 1;l0 3 2;l1 9 3;l2 20 15;j0 12;j1 20;";
        for (int thing = 0; thing < 32; thing++) {
            int l = thing % 4, at = thing / 4 % 4, j = thing / 16;
            if (l == at) continue;
            LastLaugh x = Due.hall(text);
            x.tell(3, 1, 0);
            if (x.lord(l, 4) != NONE || x.lord(at, 4) != NONE) continue;
            int would = x.falls(l, j, at);
            DUE.is("tell(" + l + ", " + j + ", " + at + ")", x.tell(l, j, at), would);
        }
        DUE.is("nobody", Due.hall("h5 0;l0 1 1;l0 1 1;j0 30;").falls(0, 0, 1), 0);
        DUE.is("all but who tells", Due.hall("h0 0;l0 1 1;l0 1 1;l0 1 1;l0 1 1;l0 1 1;l0 1 1;j0 30;").falls(5, 0, 0), 31);
    }

    private static void fallsAbove9000() {
        DUE.sentence(12, "FALLS. UNKNOWN, NOT: one of both is not IN THE HALL");
        LastLaugh x = Due.hall("h5 0;l0 20 0;l1 20 0;j0 30;");
        for (int i = 0; i < 226; i++) x.drift(40);
        DUE.is("told(7)", x.told(7), 9040);
        DUE.is("never full", x.falls(0, 0, 1), 0);
    }

    // ---- promise 13

    private static void row(LastLaugh x, int l, int... due) {
        DUE.is("alone(" + l + ", NONE)", x.alone(l, NONE), due.length);
        for (int i = 0; i < due.length; i++) DUE.is("alone(" + l + ", " + i + ")", x.alone(l, i), due[i]);
        for (int i = due.length; i <= 4; i++) DUE.is("alone(" + l + ", " + i + "), behind the row", x.alone(l, i), NONE);
    }

    private static void never(LastLaugh x, int l) {
        for (int i = NONE; i <= 4; i++) DUE.is("alone(" + l + ", " + i + "), never", x.alone(l, i), NONE);
    }

    private static void aloneAlready() {
        DUE.sentence(13, "as long as he is not alone, till he is: how many");
        row(Due.hall(ALONE), 0);
        row(Due.hall("h0 0;l0 1 1;"), 0);
        LastLaugh x = Due.hall("h0 0;l0 20 0;l1 1 1;j0 30;");
        row(x, 0, 1);
        x.tell(0, 0, 1);
        row(x, 0);
    }

    private static void aloneWithoutJokes() {
        DUE.sentence(13, "ALONE: i = NONE how many, else the i-th; NONE");
        never(Due.hall(NO_JOKES), 0);
        never(Due.hall("h5 0;l0 1 1;l0 1 1;j0 30;"), 1);
    }

    private static void aloneInThreeAtMost() {
        DUE.sentence(13, "in so few TELLINGS as can be (3 at most)");
        row(Due.hall("h0 0;l0 20 0;l0 10 15;j0 10;"), 0, 1);
        row(Due.hall("h0 0;l0 20 0;l0 10 15;l1 10 15;j0 10;j1 10;"), 0, 1, 12);
        row(Due.hall(ONE_BY_ONE + "j0 10;j1 10;j2 10;"), 0, 1, 12, 23);
        never(Due.hall(ONE_BY_ONE + "l0 10 15;j0 10;j1 10;j2 10;j3 10;"), 0);
        // Two at once by a look at the sadder one: three tellings do for four.
        row(Due.hall("h0 0;l0 20 0;l0 11 15;l1 11 15;l2 10 15;l0 20 15;j0 11;j1 11;j2 20;"), 0, 1, 12, 24);
        never(Due.hall(ONE_BY_ONE + "j0 10;j1 10;j2 9;"), 0);
    }

    private static void aloneTheIth() {
        DUE.sentence(13, "the i-th (10 times the JOKE and at whom he LOOKS");
        LastLaugh x = Due.hall(ONE_BY_ONE + "j0 10;j1 10;j2 10;");
        for (int i : new int[] {3, 4, 10, MAX, -2, MIN}) DUE.is("alone(0, " + i + ")", x.alone(0, i), NONE);
        DUE.is("alone(0, 2)", x.alone(0, 2), 23);
        // The last joke of six, told by the first lord and by the last one.
        String far = SIX_JOKES.substring(5) + "j0 30;";
        row(Due.hall("h0 0;l0 20 0;l1 1 1;l1 1 1;l1 1 1;l1 1 1;l2 20 1;" + far), 0, 55);
        row(Due.hall("h0 0;l0 20 1;l1 1 1;l1 1 1;l1 1 1;l1 1 1;l2 20 1;" + far), 5, 50);
    }

    private static void aloneOfLikeOnes() {
        DUE.sentence(13, "of like short rows the first");
        row(Due.hall("h0 0;l0 20 0;l1 1 1;l2 1 1;j0 30;j0 30;"), 0, 1);
        row(Due.hall("h0 0;l0 20 0;l1 16 1;l2 15 1;j0 30;j0 30;"), 0, 1);
        row(Due.hall("h0 0;l0 20 0;l1 15 1;l2 16 1;j0 30;j0 30;"), 0, 2);
        row(Due.hall("h0 0;l0 20 0;l1 16 1;l2 16 1;j0 30;j0 30;"), 0, 1, 12);
        // A shorter row comes ahead of one with a lesser thing first.
        row(Due.hall("h0 0;l0 20 0;l1 10 1;l2 10 1;j0 10;j0 20;"), 0, 11);
    }

    private static void aloneFromNow() {
        DUE.sentence(13, "TRIED from now");
        LastLaugh x = Due.hall("h0 1;l0 20 0;l1 10 15;l2 10 15;j0 10;j1 10;");
        row(x, 0, 1, 12);
        x.tell(0, 0, 2);
        row(x, 0, 11);
        DUE.is("lord 0 is too sad for lord 1", x.alone(1, NONE), NONE);
        x.tell(1, 1, 0);
        never(x, 0);
        x.night(1);
        row(x, 0, 1);
    }

    /** Lord 1 is out; joke 1 has lord 2 out even if he is not looked at. */
    private static LastLaugh oneIsOut() {
        LastLaugh x = Due.hall("h0 0;l0 20 0;l1 10 1;l2 10 1;j0 10;j0 20;");
        x.tell(0, 0, 1);
        return x;
    }

    private static void aloneByLooksInTheHall() {
        DUE.sentence(13, "A LORD IN THE HALL TELLS a JOKE and LOOKS at another one IN THE HALL");
        row(oneIsOut(), 0, 12);
        // A look at lord 0 has him out with lord 1: then nobody is left with whom lord 2 would understand joke 1.
        row(Due.hall("h2 0;l0 8 3;l1 5 1;l2 16 2;l0 20 0;j0 10;j1 16;"), 3, 1, 12);
        // The first lord goes first, and alone.
        row(Due.hall("h0 0;l0 10 15;l1 20 0;l2 10 15;j0 10;j1 10;"), 1, 0, 12);
        row(Due.hall("h0 0;l0 10 15;l1 20 0;l2 10 15;j0 10;j1 10;j2 10;"), 1, 0, 12);
    }

    // ---- promise 14

    private static void duels(String text, int a, int b, int n, int outcome, int thing) {
        LastLaugh x = Due.hall(text);
        String call = "duel(" + a + ", " + b + ", " + n + ", ";
        DUE.is(call + "0) in " + text, x.duel(a, b, n, 0), outcome);
        DUE.is(call + "1) in " + text, x.duel(a, b, n, 1), thing);
    }

    private static void duelOfOneToThree() {
        DUE.sentence(14, "n TELLINGS together (1 .. 3), the first one's turn first");
        String even = "h0 0;l0 10 15;l1 10 15;j0 10;";
        for (int n = 1; n <= 3; n++) {
            duels(even, 0, 1, n, 2, 1);
            duels(even, 1, 0, n, 2, 0);
        }
        LastLaugh x = Due.hall(even);
        DUE.is("duel(0, 1, 0, 0)", x.duel(0, 1, 0, 0), LastLaugh.OUTSIDE);
        DUE.is("duel(0, 1, 4, 0)", x.duel(0, 1, 4, 0), LastLaugh.OUTSIDE);
    }

    private static void duelNeither() {
        DUE.sentence(14, "else (or without JOKES) neither");
        String weak = "h0 0;l0 20 15;l1 20 15;j0 19;j1 19;";
        for (int n = 1; n <= 3; n++) duels(weak, 0, 1, n, 1, 1);
        // In one telling the other one has no turn.
        duels("h0 0;l0 1 15;l1 20 15;j0 19;", 0, 1, 1, 1, 1);
    }

    private static void duelLost() {
        DUE.sentence(14, "2 the first one has won, 1 neither, 0 the other one, if both do their best");
        String strong = "h0 0;l0 5 15;l1 20 15;j0 10;j1 6;";
        duels(strong, 0, 1, 1, 1, 1);
        duels(strong, 0, 1, 2, 0, 1);
        duels(strong, 0, 1, 3, 0, 1);
        duels(strong, 1, 0, 1, 2, 0);
        // 9 / 2 is 4: told by himself, joke 0 does no harm; at 10 / 2 it does.
        duels("h0 0;l0 5 15;l1 20 15;j0 9;", 0, 1, 2, 1, 1);
        duels("h0 0;l0 5 15;l1 20 15;j0 10;", 0, 1, 2, 0, 1);
        // He must tell joke 1, by which it is worn, not joke 0, which is weak.
        duels("h0 0;l0 5 15;l1 20 15;j0 4;j1 9;", 0, 1, 2, 1, 11);
        duels("h0 0;l0 5 15;l1 20 15;j0 4;j1 9;", 0, 1, 1, 1, 1);
    }

    private static void duelWithAnyLook() {
        DUE.sentence(14, "each TELLS a JOKE (any, with any LOOK)");
        // By a look at lord 2, from whom lord 1 catches it.
        duels("h0 0;l0 20 0;l1 3 0;l1 1 1;j0 1;", 0, 1, 1, 2, 2);
        // The other one does it the same way.
        duels("h0 0;l0 3 0;l1 20 0;l0 1 1;j0 1;", 1, 0, 1, 2, 2);
        // The first one takes away the third one, through whom he would fall himself.
        duels("h0 0;l0 3 0;l1 20 0;l0 1 1;j0 1;j0 1;", 0, 1, 1, 1, 1);
        duels("h0 0;l0 3 0;l1 20 0;l0 1 1;j0 1;j0 1;", 0, 1, 2, 1, 2);
    }

    private static void duelEndsWithWhoIsOut() {
        DUE.sentence(14, "who is OUT has lost, and it ends");
        // The first telling has lord 1 out, who would have had lord 0 out by the second.
        duels("h0 0;l0 1 15;l1 10 15;j0 10;j1 10;", 0, 1, 3, 2, 1);
        // Lord 2 is out by the first telling: he is none of the two, and it goes on.
        duels("h0 0;l0 1 15;l1 20 15;l2 1 15;j0 10;j1 10;", 0, 1, 2, 0, 1);
    }

    private static void duelWithoutJokes() {
        DUE.sentence(14, "NONE: no JOKES");
        for (int n = 1; n <= 3; n++) duels(NO_JOKES, 0, 1, n, 1, NONE);
    }

    private static void duelFirstThing() {
        DUE.sentence(14, "the first thing of the first one by which it is so");
        // Joke 0 does nothing, joke 1 wins by a look at lord 2 only, joke 2 at any.
        duels("h0 0;l0 20 0;l0 20 0;l1 10 1;j1 1;j0 10;j0 20;", 0, 2, 1, 2, 12);
        duels("h0 0;l0 20 0;l0 20 0;l1 10 1;j1 1;j0 20;j0 20;", 0, 2, 1, 2, 11);
        duels("h0 0;l0 20 0;l0 20 0;l1 10 1;j1 1;j0 9;j0 10;", 0, 2, 3, 2, 22);
        // Nothing wins, and all is lost: the first thing of all.
        duels("h0 0;l0 1 15;l1 20 0;l2 20 0;j0 4;j1 4;", 0, 2, 2, 0, 1);
        duels(FIVE + "l2 20 1;j1 1;j1 1;j1 1;j1 1;j1 1;j0 30;", 0, 5, 1, 2, 55);
    }

    private static void duelByLooksInTheHall() {
        DUE.sentence(14, "A LORD IN THE HALL TELLS a JOKE and LOOKS at another one IN THE HALL");
        LastLaugh x = oneIsOut();
        DUE.is("duel(0, 2, 1, 0)", x.duel(0, 2, 1, 0), 2);
        DUE.is("duel(0, 2, 1, 1)", x.duel(0, 2, 1, 1), 12);
    }

    // ---- promises 15 and 16

    private static void safeInTheHall() {
        DUE.sentence(15, "LORDS IN THE HALL whom no JOKE told by anyone now would bring OUT (a SET)");
        DUE.is("no hall", new LastLaugh().safe(), 0);
        DUE.is("nobody", Due.hall("h0 0;j0 30;").safe(), 0);
        DUE.is("alone", Due.hall(ALONE).safe(), 1);
        DUE.is("without jokes", Due.hall(NO_JOKES).safe(), 3);
        DUE.is("six", Due.hall(SIX + SIX_JOKES).safe(), 63);
        DUE.is("none of six", Due.hall("h0 0;l0 1 1;l0 1 1;l0 1 1;l0 1 1;l0 1 1;l0 1 1;j0 30;").safe(), 0);
        LastLaugh x = Due.hall(ONE_BY_ONE + "j0 10;");
        DUE.is("lord 0 alone", x.safe(), 1);
        x.tell(0, 0, 2);
        DUE.is("not who is out", x.safe(), 11);
        x.night(1);
        DUE.is("behind a night", x.safe(), 1);
        DUE.is("at hold", Due.hall("h0 0;l0 10 1;l1 11 1;j0 10;").safe(), 2);
    }

    private static void safeByAnyone() {
        DUE.sentence(15, "told by anyone now");
        // Told by lord 1 both others understand it; told by another one they do not.
        DUE.is("by lord 1 only", Due.hall("h2 0;l0 5 1;l1 5 0;l2 20 1;j0 10;").safe(), 6);
        DUE.is("by the last joke of six", Due.hall(FIVE + "l2 20 1;" + SIX_JOKES.substring(5) + "j0 20;").safe(), 31);
    }

    private static void safeFromWhoIsOut() {
        DUE.sentence(15, "A LORD IN THE HALL TELLS a JOKE");
        // Told by lord 2, both others would understand it; he is out.
        LastLaugh x = Due.hall("h2 0;l0 20 1;l1 20 1;l2 10 1;j0 10;j0 30;");
        DUE.is("ahead of it", x.safe(), 0);
        DUE.is("tell(0, 0, 2)", x.tell(0, 0, 2), 4);
        DUE.is("behind it", x.safe(), 3);
    }

    private static void safeFromCatching() {
        DUE.sentence(15, "whom no JOKE told by anyone now would bring OUT");
        DUE.is("who catches it is not safe", Due.hall("h0 0;l1 20 0;l0 1 1;l0 3 0;j0 1;").safe(), 1);
        DUE.is("who does not is", Due.hall("h0 0;l1 20 0;l0 1 1;l0 4 0;j0 1;").safe(), 5);
    }

    private static void drawsByCatching() {
        DUE.sentence(16, "who LAUGHS with him by CATCHING alone, if he alone LAUGHS (a SET, he too)");
        DUE.is("alone", Due.hall(ALONE).draws(0), 1);
        LastLaugh x = Due.hall("h0 0;l0 20 0;l0 3 0;l0 6 0;l0 9 0;l0 13 0;l1 1 0;");
        DUE.is("up to 9, not 13", x.draws(0), 15);
        DUE.is("3 are not 6", x.draws(1), 2);
        DUE.is("two are 6, not 9", x.draws(2), 6);
        DUE.is("the last", x.draws(5), 32);
        DUE.is("all of six", Due.hall("h0 0;l2 20 0;l2 15 0;l2 12 0;l2 9 0;l2 6 0;l2 3 0;").draws(0), 63);
        DUE.is("16 is too much", Due.hall("h0 0;l2 20 0;l2 16 0;l2 12 0;l2 9 0;l2 6 0;l2 3 0;").draws(0), 61);
        DUE.is("not by a joke: nobody understands it", Due.hall("h5 0;l0 20 0;l0 3 0;").draws(0), 3);
        DUE.is("4 is too much", Due.hall("h0 0;l0 20 0;l0 4 0;").draws(0), 1);
    }

    private static void drawsInTheHall() {
        DUE.sentence(16, "any other one IN THE HALL on it");
        LastLaugh x = Due.hall("h0 1;l1 20 0;l0 7 0;l0 1 1;l0 4 0;j0 1;");
        DUE.is("lord 2, and with him lord 3", x.draws(1), 14);
        x.tell(0, 0, 2);
        DUE.is("lord 2 is out", x.draws(1), 2);
        x.night(1);
        DUE.is("hold 3 behind a night", x.draws(1), 10);
    }

    // ---- promise 17

    private static void coverOfNobody() {
        DUE.sentence(17, "so that each of the others IN THE HALL FALLS");
        DUE.is("no other one", Due.hall(ALONE).cover(0), 0);
        LastLaugh x = Due.hall("h0 0;l0 20 0;l1 10 1;l2 20 0;j0 10;j0 30;");
        DUE.is("lord 2 never falls", x.cover(0), NONE);
        DUE.is("by lord 2: lord 0 never falls", x.cover(2), NONE);
        x = Due.hall("h0 0;l0 20 0;l1 10 1;j0 10;");
        x.tell(0, 0, 1);
        DUE.is("the other one is out", x.cover(0), 0);
    }

    private static void coverFewest() {
        DUE.sentence(17, "the fewest JOKES");
        // Jokes 0 and 1 have one each, joke 2 has both.
        DUE.is("one rather than two", Due.hall("h0 0;l0 20 0;l1 9 1;l2 9 2;j0 9;j1 9;j2 18;").cover(0), 4);
        DUE.is("two", Due.hall("h0 0;l0 20 0;l1 9 1;l2 9 2;j0 9;j1 9;j2 17;").cover(0), 3);
        DUE.is("three", Due.hall("h0 0;l0 20 0;l0 9 1;l1 9 2;l2 9 4;j0 9;j1 9;j2 9;").cover(0), 7);
    }

    private static void coverLeast() {
        DUE.sentence(17, "of like ones the least");
        DUE.is("{0} of {0}, {1}", Due.hall(ONE_BY_ONE + "j0 10;j0 10;").cover(0), 1);
        // Only {0, 3} (9) and {1, 2} (6) have all four.
        DUE.is("{1, 2} of {0, 3}, {1, 2}",
            Due.hall("h0 0;l0 20 0;l0 9 3;l0 9 5;l1 9 10;l2 9 12;j0 9;j1 9;j2 9;j3 9;").cover(0), 6);
    }

    private static void coverNone() {
        DUE.sentence(17, "COVER: the SET; NONE");
        DUE.is("without jokes", Due.hall(NO_JOKES).cover(0), NONE);
        DUE.is("too weak", Due.hall(ONE_BY_ONE + "j0 9;j1 9;j2 9;").cover(0), NONE);
        DUE.is("not understood", Due.hall("h2 0;l0 20 0;l1 1 1;j0 30;").cover(0), NONE);
    }

    private static void coverNotBehindOneAnother() {
        DUE.sentence(17, "each told now, not behind one another");
        // Behind the first telling nobody would understand the second: two are needed for it.
        LastLaugh x = Due.hall("h2 0;l0 20 0;l1 9 3;l2 9 3;j0 9;j1 9;");
        DUE.is("cover(0)", x.cover(0), 1);
        DUE.is("alone(0, NONE)", x.alone(0, NONE), NONE);
        // A joke is not worn by its own other look.
        x = Due.hall("h0 0;l0 20 0;l1 9 1;l2 9 1;j0 9;");
        DUE.is("cover(0)", x.cover(0), 1);
        DUE.is("alone(0, NONE)", x.alone(0, NONE), NONE);
        x.tell(1, 0, 0);
        DUE.is("worn by now", x.cover(0), NONE);
    }

    private static void coverOfTheSixth() {
        DUE.sentence(17, "(a SET of JOKES");
        DUE.is("the sixth joke", Due.hall(ONE_BY_ONE + SIX_JOKES.substring(5) + "j0 10;").cover(0), 32);
        DUE.is("the sixth lord", Due.hall("h0 0;l0 1 1;l0 1 1;l0 1 1;l0 1 1;l0 1 1;l0 1 1;j0 1;j0 30;").cover(5), 1);
    }

    // ---- promises 18, 19, 20

    private static void toldHowMany() {
        DUE.sentence(18, "TOLD: i = NONE how many");
        LastLaugh x = Due.hall(SIX + SIX_JOKES);
        DUE.is("all of 30", x.toldBy(0, 0, NONE), 30);
        DUE.is("none", x.toldBy(0, 2, NONE), 0);
        DUE.is("alone", Due.hall(ALONE).toldBy(0, 0, NONE), 0);
        DUE.is("without jokes", Due.hall(NO_JOKES).toldBy(0, 0, NONE), 0);
    }

    private static void toldTheIth() {
        DUE.sentence(18, "else the i-th; NONE");
        LastLaugh x = Due.hall(SIX + SIX_JOKES);
        for (int i = 0; i < 30; i++) {
            DUE.is("by lord 0, the " + i + "th", x.toldBy(0, 0, i), 10 * (i / 5) + 1 + i % 5);
            DUE.is("by lord 5, the " + i + "th", x.toldBy(5, 0, i), 10 * (i / 5) + i % 5);
        }
        for (int i : new int[] {30, 31, 60, MAX, -2, MIN}) DUE.is("toldBy(0, 0, " + i + ")", x.toldBy(0, 0, i), NONE);
        for (int i : new int[] {0, 1, MAX}) DUE.is("none: toldBy(0, 2, " + i + ")", x.toldBy(0, 2, i), NONE);
        DUE.is("alone", Due.hall(ALONE).toldBy(0, 0, 0), NONE);
        DUE.is("without jokes", Due.hall(NO_JOKES).toldBy(0, 0, 0), NONE);
    }

    private static void toldJustTheSet() {
        DUE.sentence(18, "so that just a told SET FELL");
        // A look at lord 2 has both out, a look at lord 1 him alone.
        LastLaugh x = Due.hall("h0 0;l0 20 0;l1 10 1;l2 20 1;j0 20;j0 10;");
        DUE.is("just lord 1", x.toldBy(0, 2, NONE), 2);
        DUE.is("by joke 0", x.toldBy(0, 2, 0), 1);
        DUE.is("by joke 1", x.toldBy(0, 2, 1), 11);
        DUE.is("both", x.toldBy(0, 6, NONE), 1);
        DUE.is("by joke 0", x.toldBy(0, 6, 0), 2);
        DUE.is("just lord 2", x.toldBy(0, 4, NONE), 0);
        DUE.is("nobody", x.toldBy(0, 0, 0), 12);
        DUE.is("who tells", x.toldBy(0, 1, NONE), 0);
        DUE.is("all", x.toldBy(0, 7, NONE), 0);
        x.tell(0, 1, 1);
        DUE.is("who is out", x.toldBy(0, 2, NONE), 0);
        DUE.is("who is out and another one", x.toldBy(0, 6, NONE), 0);
        DUE.is("just lord 2 now", x.toldBy(0, 4, 0), 2);
    }

    /** The first joke with a look at the first lord is 0: a thing, too. */
    private static void toldTheLeastThing() {
        DUE.sentence(18, "10 times the JOKE and at whom he LOOKED: how many; the i-th (rising)");
        LastLaugh x = Due.hall("h0 0;l0 10 1;l1 20 0;j0 10;");
        DUE.is("how many", x.toldBy(1, 1, NONE), 1);
        DUE.is("the first", x.toldBy(1, 1, 0), 0);
        DUE.is("behind it", x.toldBy(1, 1, 1), NONE);
        DUE.is("all of 30", Due.hall(SIX + SIX_JOKES).toldBy(5, 0, NONE), 30);
        DUE.sentence(19, "JOKES that can be at all (a SET of JOKES)");
        DUE.is("sure(1, 1)", x.sure(1, 1), 1);
        DUE.sentence(20, "LORDS who could have told anything");
        DUE.is("wired(1)", x.wired(1), 2);
    }

    private static void toldByLooksInTheHall() {
        DUE.sentence(18, "A LORD IN THE HALL TELLS a JOKE and LOOKS at another one IN THE HALL");
        LastLaugh x = oneIsOut();
        DUE.is("how many", x.toldBy(0, 4, NONE), 1);
        DUE.is("the first", x.toldBy(0, 4, 0), 12);
        DUE.is("nobody: how many", x.toldBy(0, 0, NONE), 1);
        DUE.is("nobody: the first", x.toldBy(0, 0, 0), 2);
    }

    private static void sureOfJokes() {
        DUE.sentence(19, "SURE: JOKES that can be at all (a SET of JOKES)");
        LastLaugh x = Due.hall("h0 0;l0 20 0;l1 10 1;l2 20 1;j0 20;j0 10;");
        DUE.is("just lord 1", x.sure(0, 2), 3);
        DUE.is("both", x.sure(0, 6), 1);
        DUE.is("nobody", x.sure(0, 0), 2);
        DUE.is("none can be", x.sure(0, 4), 0);
        DUE.is("who tells", x.sure(0, 1), 0);
        DUE.is("all six", Due.hall(SIX + SIX_JOKES).sure(5, 0), 63);
        DUE.is("alone", Due.hall(ALONE).sure(0, 0), 0);
        DUE.is("without jokes", Due.hall(NO_JOKES).sure(0, 0), 0);
    }

    private static void wiredByAnyone() {
        DUE.sentence(20, "LORDS who could have told anything by which just a told SET FELL (a SET)");
        DUE.is("all six", Due.hall(SIX + SIX_JOKES).wired(0), 63);
        LastLaugh x = Due.hall("h0 0;l0 20 0;l1 10 1;l2 20 1;j0 20;j0 10;");
        DUE.is("just lord 1", x.wired(2), 5);
        DUE.is("just lord 2", x.wired(4), 2);
        DUE.is("both", x.wired(6), 1);
        DUE.is("nobody", x.wired(0), 7);
        DUE.is("lord 0", x.wired(1), 0);
        x.tell(0, 1, 1);
        DUE.is("not who is out", x.wired(4), 1);
        DUE.is("nobody, now", x.wired(0), 5);
    }

    private static void wiredByNobody() {
        DUE.sentence(20, "WIRED. UNKNOWN");
        DUE.is("no hall", new LastLaugh().wired(0), 0);
        DUE.is("a hall of nobody", Due.hall("h0 0;j0 1;").wired(0), 0);
        DUE.is("alone", Due.hall(ALONE).wired(0), 0);
        DUE.is("alone: himself", Due.hall(ALONE).wired(1), 0);
        DUE.is("without jokes", Due.hall(NO_JOKES).wired(0), 0);
        DUE.is("the greatest set of six", Due.hall(SIX + SIX_JOKES).wired(63), 0);
        DUE.is("a bit of no lord", Due.hall(SIX + SIX_JOKES).wired(64), LastLaugh.UNKNOWN);
        DUE.is("a bit of no lord", Due.hall(ALONE).wired(2), LastLaugh.UNKNOWN);
    }
}
