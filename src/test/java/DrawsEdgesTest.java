import java.util.ArrayList;
import java.util.List;

/** Promises 10 and 11: each sentence on draws and on what is undone that names a boundary has a test of its own. */
public final class DrawsEdgesTest {
    private static final Due DUE = new Due();
    /** Nobody ever laughs. */
    private static final String DULL = "h5 0;l0 20 0;l1 20 0;j0 30;";
    /** Who is looked at falls, and he alone, if the joke was not told before. */
    private static final String LOOKS = "h0 0;l0 20 15;l1 20 15;l2 20 15;j0 30;j1 29;j2 28;";
    private static final int[] SEEDS = {0, 1, 2, 3, 5, 77, 4242, 65535, 65536, 1103515245, 1 << 30, 2147483646, 2147483647};

    public static void main(String[] args) {
        oneToFortyTimes();
        inTheHallThen();
        noHall();
        tellingsAbove9000();
        twoOrMore();
        endsWithOne();
        withoutJokes();
        zeroAtFirst();
        leftOver();
        risingEach();
        aNightOnZero();
        aNightBehindTheLast();
        oneToThirtyUndone();
        notSoMany();
        thirtyAtMost();
        ringOfThirty();
        sinceTheText();
        sinceTheImage();
        drawsOneByOne();
        nightsOneByOne();
        seedStays();
        allIsUndone();
        DUE.end("DrawsEdgesTest");
    }

    /** The draws of the document, in numbers that do not wrap around. */
    private static final class Draws {
        long seed;

        Draws(long seed) {
            this.seed = seed;
        }

        int of(int n) {
            seed = (seed * 1103515245L + 12345L) % (1L << 31);
            return (int) (seed / 65536 % n);
        }
    }

    private static LastLaugh seeded(String text, int seed) {
        LastLaugh x = Due.hall(text);
        x.seed(seed);
        return x;
    }

    // ---- promise 10

    private static void oneToFortyTimes() {
        DUE.sentence(10, "n times BY DRAWS (1 .. 40)");
        LastLaugh x = Due.hall(DULL);
        DUE.is("drift(1)", x.drift(1), 3);
        DUE.is("told(7)", x.told(7), 1);
        DUE.is("drift(40)", x.drift(40), 3);
        DUE.is("told(7)", x.told(7), 41);
        DUE.is("drift(0)", x.drift(0), LastLaugh.OUTSIDE);
        DUE.is("drift(41)", x.drift(41), LastLaugh.OUTSIDE);
        DUE.is("told(7)", x.told(7), 41);
    }

    private static void inTheHallThen() {
        DUE.sentence(10, "who is IN THE HALL then (a SET)");
        for (int seed : SEEDS) {
            LastLaugh x = seeded(LOOKS, seed);
            int left = x.drift(1);
            DUE.is("two are left", Integer.bitCount(left), 2);
            DUE.is("told(8)", x.told(8), left);
        }
    }

    private static void noHall() {
        DUE.sentence(10, "NOT: no HALL");
        DUE.is("new: drift(1)", new LastLaugh().drift(1), LastLaugh.NOT);
        LastLaugh x = Due.hall(DULL);
        x.hall();
        DUE.is("no hall any more", x.drift(1), LastLaugh.NOT);
        DUE.is("a hall of nobody", Due.hall("h0 0;j0 1;").drift(40), 0);
    }

    private static void tellingsAbove9000() {
        DUE.sentence(10, "FULL: TELLINGS are above 9000");
        LastLaugh x = Due.hall(DULL);
        for (int i = 0; i < 225; i++) x.drift(40);
        DUE.is("told(7)", x.told(7), 9000);
        DUE.is("40 more at 9000", x.drift(40), 3);
        DUE.is("told(7)", x.told(7), 9040);
        DUE.is("one more at 9040", x.drift(1), LastLaugh.FULL);
        x = Due.hall(DULL);
        for (int i = 0; i < 225; i++) x.drift(40);
        x.drift(1);
        DUE.is("one more at 9001", x.drift(1), LastLaugh.FULL);
    }

    private static void twoOrMore() {
        DUE.sentence(10, "as long as two or more are IN THE HALL");
        LastLaugh x = seeded("h0 0;l0 1 1;j0 30;", 9);
        DUE.is("one", x.drift(40), 1);
        DUE.is("told(7)", x.told(7), 0);
        DUE.is("no draw", x.seed(0), 9);
        x = seeded("h0 0;j0 30;", 9);
        DUE.is("nobody", x.drift(40), 0);
        DUE.is("no draw", x.seed(0), 9);
        DUE.is("nothing to undo", x.told(13), 0);
    }

    private static void endsWithOne() {
        DUE.sentence(10, "as long as two or more are");
        for (int seed : SEEDS) {
            LastLaugh x = seeded("h0 0;l0 1 1;l1 1 1;l2 1 1;j0 30;", seed);
            Draws draws = new Draws(seed);
            int teller = draws.of(3);
            draws.of(1);
            draws.of(2);
            draws.of(6);
            DUE.is("drift(40) from " + seed, x.drift(40), 1 << teller);
            DUE.is("told(7)", x.told(7), 1);
            DUE.is("four draws", x.seed(0), draws.seed);
        }
    }

    private static void withoutJokes() {
        DUE.sentence(10, "if there are JOKES");
        LastLaugh x = seeded("h0 0;l0 1 1;l1 1 1;", 9);
        DUE.is("drift(40)", x.drift(40), 3);
        DUE.is("told(7)", x.told(7), 0);
        DUE.is("told(6)", x.told(6), 0);
        DUE.is("no draw", x.seed(0), 9);
    }

    private static void zeroAtFirst() {
        DUE.sentence(10, "THE SEED (0 at first");
        LastLaugh x = Due.hall(DULL);
        x.drift(1);
        // 12345, 1406932606, 654583775, 1449466924.
        DUE.is("behind four draws from 0", x.seed(0), 1449466924);
    }

    private static void leftOver() {
        DUE.sentence(10, "left over by 2 to the 31");
        for (int seed : SEEDS) {
            LastLaugh x = seeded(DULL, seed);
            Draws draws = new Draws(seed);
            for (int i = 0; i < 4 * 40; i++) draws.of(1);
            x.drift(40);
            DUE.is("behind 160 draws from " + seed, x.seed(0), draws.seed);
        }
    }

    private static void risingEach() {
        DUE.sentence(10, "a DRAW of the others IN THE HALL at whom he LOOKS (rising each)");
        for (int seed = 0; seed < 120; seed++) {
            int start = seed < SEEDS.length ? SEEDS[seed] : seed * 17895697;
            LastLaugh x = seeded(LOOKS, start);
            Draws draws = new Draws(start);
            List<Integer> in = new ArrayList<>(List.of(0, 1, 2));
            int[] times = new int[3];
            for (int telling = 1; telling <= 2; telling++) {
                List<Integer> others = new ArrayList<>(in);
                int teller = others.remove(draws.of(others.size()));
                int joke = draws.of(3);
                int at = others.get(draws.of(others.size()));
                if (times[joke] == 0) in.remove((Integer) at);
                times[joke]++;
                if (draws.of(6) == 0) for (int j = 0; j < 3; j++) times[j] = Math.max(0, times[j] - 1);
                int set = 0;
                for (int l : in) set |= 1 << l;
                DUE.is("seed " + start + ", telling " + telling + " by " + teller, x.drift(1), set);
                for (int j = 0; j < 3; j++) DUE.is("joke(" + j + ", 3)", x.joke(j, 3), times[j]);
            }
        }
    }

    private static void aNightOnZero() {
        DUE.sentence(10, "a DRAW of 6: on 0 a NIGHT goes by");
        LastLaugh x = Due.hall(DULL);
        Draws draws = new Draws(0);
        int nights = 0;
        for (int i = 0; i < 60; i++) {
            for (int d = 0; d < 3; d++) draws.of(1);
            if (draws.of(6) == 0) nights++;
            x.drift(1);
            DUE.is("nights behind " + (i + 1), x.told(6), nights);
        }
        DUE.holds("one went by", nights > 0);
    }

    private static void aNightBehindTheLast() {
        DUE.sentence(10, "n times, as long as two or more are IN THE HALL");
        int seen = 0;
        for (int seed = 0; seed < 40; seed++) {
            LastLaugh x = seeded("h0 0;l0 1 1;l1 1 1;j0 30;", seed);
            Draws draws = new Draws(seed);
            for (int d = 0; d < 3; d++) draws.of(1);
            int night = draws.of(6) == 0 ? 1 : 0;
            seen += night;
            x.drift(40);
            DUE.holds("one is left", x.told(9) != LastLaugh.NONE);
            DUE.is("seed " + seed + ": a night behind the telling that leaves one", x.told(6), night);
            DUE.is("to be undone", x.told(13), 1 + night);
        }
        DUE.holds("some seed has a night", seen > 0);
    }

    // ---- promise 11

    private static LastLaugh told(int times) {
        LastLaugh x = Due.hall(DULL);
        for (int i = 0; i < times; i++) x.tell(i % 2, 0, 1 - i % 2);
        return x;
    }

    private static void oneToThirtyUndone() {
        DUE.sentence(11, "The n latest (1 .. 30) are undone: TELLINGS");
        DUE.is("undo(1)", told(30).undo(1), 29);
        DUE.is("undo(30)", told(30).undo(30), 0);
        DUE.is("undo(0)", told(30).undo(0), LastLaugh.OUTSIDE);
        DUE.is("undo(31)", told(40).undo(31), LastLaugh.OUTSIDE);
    }

    private static void notSoMany() {
        DUE.sentence(11, "NOT: not so many");
        DUE.is("nothing was told", told(0).undo(1), LastLaugh.NOT);
        DUE.is("undo(5) of 5", told(5).undo(5), 0);
        DUE.is("undo(6) of 5", told(5).undo(6), LastLaugh.NOT);
        DUE.is("undo(30) of 29", told(29).undo(30), LastLaugh.NOT);
        LastLaugh x = told(5);
        x.undo(3);
        DUE.is("undo(3) of the two that are left", x.undo(3), LastLaugh.NOT);
        DUE.is("undo(2) of them", x.undo(2), 0);
        DUE.is("undo(1) of none", x.undo(1), LastLaugh.NOT);
    }

    private static void thirtyAtMost() {
        DUE.sentence(11, "(30 at most are kept)");
        for (int times : new int[] {29, 30, 31, 59, 60, 61, 90, 91}) {
            LastLaugh x = told(times);
            int kept = Math.min(30, times);
            DUE.is("told(13) behind " + times, x.told(13), kept);
            DUE.is("undo(" + kept + ") behind " + times, x.undo(kept), times - kept);
            DUE.is("how often it was told then", x.joke(0, 3), times - kept);
            DUE.is("undo(1) behind them", x.undo(1), LastLaugh.NOT);
        }
    }

    private static void ringOfThirty() {
        DUE.sentence(11, "the latest TELLINGS, NIGHTS");
        LastLaugh x = told(45);
        DUE.is("undo(20)", x.undo(20), 25);
        for (int i = 0; i < 25; i++) x.tell(0, 0, 1);
        DUE.is("30 are kept again", x.told(13), 30);
        for (int i = 1; i <= 30; i++) DUE.is("undo(1), the " + i + "th", x.undo(1), 50 - i);
        DUE.is("undo(1) behind them", x.undo(1), LastLaugh.NOT);
    }

    private static void sinceTheText() {
        DUE.sentence(11, "since the text or IMAGE");
        LastLaugh x = told(5);
        Due.feed(x, DULL).hall();
        DUE.is("undo(1) behind a text", x.undo(1), LastLaugh.NOT);
        x = told(5);
        Due.feed(x, "h9").hall();
        DUE.is("undo(5) behind a fault", x.undo(5), 0);
        x = told(5);
        x.feed('h');
        DUE.is("undo(5) behind a letter", x.undo(5), 0);
    }

    private static void sinceTheImage() {
        DUE.sentence(11, "since the text or IMAGE");
        LastLaugh x = told(5);
        x.keep(0);
        DUE.is("undo(1) behind keep(0)", x.undo(1), LastLaugh.NOT);
        x.tell(0, 0, 1);
        DUE.is("undo(2) behind keep(0) and one", x.undo(2), LastLaugh.NOT);
        DUE.is("undo(1) of this one", x.undo(1), 5);
        x.tell(0, 0, 1);
        x.goBack(0);
        DUE.is("undo(1) behind goBack(0)", x.undo(1), LastLaugh.NOT);
        x.night(1);
        DUE.is("undo(1) of a night", x.undo(1), 5);
        DUE.is("told(6)", x.told(6), 0);
    }

    private static void drawsOneByOne() {
        DUE.sentence(11, "(also BY DRAWS, one by one)");
        int withNight = 0;
        for (int seed = 0; seed < 40; seed++) {
            LastLaugh x = seeded(DULL, seed);
            x.drift(1);
            int nights = x.told(6);
            DUE.is("told(13)", x.told(13), 1 + nights);
            withNight += nights;
            if (nights > 0) {
                DUE.is("undo(1): the night", x.undo(1), 1);
                DUE.is("told(6)", x.told(6), 0);
                DUE.is("told as often as ahead of the night", x.joke(0, 3), 1);
            }
            DUE.is("undo(1): the telling", x.undo(1), 0);
            DUE.is("told(13) then", x.told(13), 0);
        }
        DUE.holds("some seed has a night", withNight > 0);
        LastLaugh x = Due.hall(DULL);
        x.drift(5);
        int nights = x.told(6);
        DUE.is("drift(5)", x.told(13), 5 + nights);
    }

    private static void nightsOneByOne() {
        DUE.sentence(11, "the latest TELLINGS, NIGHTS");
        LastLaugh x = told(1);
        x.night(20);
        DUE.is("told(13)", x.told(13), 21);
        x.undo(1);
        DUE.is("one of 20 undone", x.told(6), 19);
        x.undo(19);
        DUE.is("all of them", x.told(6), 0);
        DUE.is("the telling is yet", x.told(7), 1);
        x.night(20);
        x.night(20);
        DUE.is("30 of 40 are kept", x.told(13), 30);
        x.undo(30);
        DUE.is("10 are left", x.told(6), 10);
    }

    private static void seedStays() {
        DUE.sentence(11, "THE SEED stays");
        LastLaugh x = seeded(DULL, 5);
        Draws draws = new Draws(5);
        for (int i = 0; i < 12; i++) draws.of(1);
        x.drift(3);
        x.undo(3);
        DUE.is("behind 12 draws", x.seed(6), draws.seed);
        x.tell(0, 0, 1);
        x.seed(99);
        x.undo(1);
        DUE.is("put since the telling", x.seed(0), 99);
    }

    private static void allIsUndone() {
        DUE.sentence(11, "are undone");
        LastLaugh x = Due.hall("h0 2;l0 20 0;l1 10 15;l2 10 15;j0 10;j1 10;");
        x.tell(0, 0, 1);
        x.night(1);
        x.tell(0, 1, 2);
        x.tell(0, 0, 0);
        DUE.is("undo(1)", x.undo(1), 1);
        DUE.is("in the hall", x.told(8), 5);
        DUE.is("king", x.told(9), LastLaugh.NONE);
        DUE.is("out by the latest", x.told(10), 2);
        DUE.is("lord(2, 4)", x.lord(2, 4), LastLaugh.NONE);
        DUE.is("lord(1, 4)", x.lord(1, 4), 1);
        DUE.is("joke(1, 3)", x.joke(1, 3), 0);
        DUE.is("nights", x.told(6), 1);
        DUE.is("undo(1)", x.undo(1), 1);
        DUE.is("nights", x.told(6), 0);
        DUE.is("hold", x.lord(0, 3), 20);
        DUE.is("joke(0, 3)", x.joke(0, 3), 1);
        DUE.is("undo(1)", x.undo(1), 0);
        DUE.is("in the hall", x.told(8), 7);
        DUE.is("lord(1, 4)", x.lord(1, 4), LastLaugh.NONE);
        DUE.is("out by the latest", x.told(10), 0);
        DUE.is("joke(0, 3)", x.joke(0, 3), 0);
    }
}
