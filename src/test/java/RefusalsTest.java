import java.util.function.Supplier;
import java.util.function.ToIntFunction;

/**
 * The refusals of every promise: which of several comes first (UNKNOWN, OUTSIDE, NOT, FULL), and that what is
 * refused changes nothing. Each row is one call in one state with the refusal that is due.
 */
public final class RefusalsTest {
    private static final Due DUE = new Due();
    private static final int UNKNOWN = LastLaugh.UNKNOWN, OUTSIDE = LastLaugh.OUTSIDE, NOT = LastLaugh.NOT, FULL = LastLaugh.FULL;
    private static final int MIN = Integer.MIN_VALUE, MAX = Integer.MAX_VALUE;
    /** No lord: there are four. 32 and 33 would be 0 and 1 to a shift that wraps around. */
    private static final int[] NO_LORDS = {-1, 4, 5, 6, 32, 33, MIN, MAX};
    /** No joke: there are two. */
    private static final int[] NO_JOKES = {-1, 2, 5, 6, 32, 33, MIN, MAX};
    private static final int[] NO_SETS = {16, 17, 32, 64, 1 << 30, -1, MIN, MAX};
    private static final int[] NO_IMAGES = {-1, 2, 3, MIN, MAX};

    public static void main(String[] args) {
        theNumbers();
        hallCalls();
        tellCalls();
        nightAndDriftCalls();
        undoCalls();
        fallsCalls();
        aloneAndDuelCalls();
        drawsAndCoverCalls();
        toldByCalls();
        seenCalls();
        bookCalls();
        imageCalls();
        withoutAHall();
        DUE.end("RefusalsTest");
    }

    /** Lords 1 and 2 are out, 0 and 3 are in the hall; a telling and a night can be undone, both images are kept. */
    private static LastLaugh used() {
        LastLaugh x = Due.hall("h1 1;l0 8 1;l0 3 0;l1 6 1;l2 20 3;j0 12;j1 10;");
        x.keep(0);
        x.tell(3, 0, 2);
        x.keep(1);
        x.night(1);
        x.tell(0, 1, 3);
        x.seed(77);
        x.see(0, 0, true);
        x.see(1, 1, false);
        x.write(2, 8);
        Due.feed(x, "h9");
        return x;
    }

    private static LastLaugh textFull() {
        LastLaugh x = used();
        for (int i = 0; i < 198; i++) x.feed(' ');
        return x;
    }

    /** Lord 2 is out, and 9001 jokes were told. */
    private static LastLaugh tellingsFull() {
        LastLaugh x = Due.hall("h0 0;l0 20 0;l1 20 0;l2 20 1;j0 30;");
        x.tell(0, 0, 2);
        for (int i = 0; i < 225; i++) x.drift(40);
        return x;
    }

    private static LastLaugh nightsFull() {
        LastLaugh x = used();
        for (int i = 0; i < 45; i++) x.night(20);
        return x;
    }

    private static LastLaugh seenFull() {
        LastLaugh x = used();
        for (int i = 0; i < 4; i++) x.see(3, 0, true);
        return x;
    }

    private static LastLaugh bookFull() {
        LastLaugh x = used();
        for (int i = 0; i < 19; i++) x.write(i, 9);
        return x;
    }

    /** Image 1 alone was kept, and nothing can be undone. */
    private static LastLaugh oneKept() {
        LastLaugh x = Due.hall("h1 1;l0 8 1;l0 3 0;l1 6 1;l2 20 3;j0 12;j1 10;");
        x.tell(3, 0, 2);
        x.keep(1);
        return x;
    }

    private static void refused(Supplier<LastLaugh> made, int due, String call, ToIntFunction<LastLaugh> on) {
        DUE.is(call, on.applyAsInt(made.get()), due);
        DUE.holds(call + ", refused, changes nothing", Twins.staysAlike(made, on));
    }

    private static void used(int due, String call, ToIntFunction<LastLaugh> on) {
        refused(RefusalsTest::used, due, call, on);
    }

    private static void theNumbers() {
        DUE.sentence(1, "They are far below all that is counted: -1000000001 and on");
        DUE.is("UNKNOWN", UNKNOWN, -1000000001);
        DUE.is("OUTSIDE", OUTSIDE, -1000000002);
        DUE.is("NOT", NOT, -1000000003);
        DUE.is("FULL", FULL, -1000000004);
        DUE.is("NONE", LastLaugh.NONE, -1);
    }

    private static void hallCalls() {
        DUE.sentence(2, "OUTSIDE, FULL (200)");
        for (int letter : new int[] {-1, 256, MIN, MAX}) {
            used(OUTSIDE, "feed(" + letter + ")", x -> x.feed(letter));
            refused(RefusalsTest::textFull, OUTSIDE, "feed(" + letter + ") behind 200", x -> x.feed(letter));
        }
        refused(RefusalsTest::textFull, FULL, "feed(0) behind 200", x -> x.feed(0));
        refused(RefusalsTest::textFull, FULL, "feed(255) behind 200", x -> x.feed(255));
        DUE.sentence(5, "OUTSIDE");
        for (int what : new int[] {-1, 14, MIN, MAX}) used(OUTSIDE, "told(" + what + ")", x -> x.told(what));
        DUE.sentence(6, "UNKNOWN, OUTSIDE");
        for (int l : NO_LORDS) {
            for (int what : new int[] {0, 4, 5, -1}) used(UNKNOWN, "lord(" + l + ", " + what + ")", x -> x.lord(l, what));
        }
        for (int what : new int[] {-1, 5, MIN, MAX}) used(OUTSIDE, "lord(1, " + what + ")", x -> x.lord(1, what));
        DUE.sentence(7, "UNKNOWN, OUTSIDE");
        for (int j : NO_JOKES) {
            for (int what : new int[] {0, 3, 4, -1}) used(UNKNOWN, "joke(" + j + ", " + what + ")", x -> x.joke(j, what));
        }
        for (int what : new int[] {-1, 4, MIN, MAX}) used(OUTSIDE, "joke(1, " + what + ")", x -> x.joke(1, what));
    }

    private static void tells(Supplier<LastLaugh> made, int due, int l, int j, int at) {
        refused(made, due, "tell(" + l + ", " + j + ", " + at + ")", x -> x.tell(l, j, at));
    }

    private static void tellCalls() {
        DUE.sentence(8, "UNKNOWN");
        for (int l : NO_LORDS) {
            tells(RefusalsTest::used, UNKNOWN, l, 0, 3);
            tells(RefusalsTest::used, UNKNOWN, 3, 0, l);
        }
        for (int j : NO_JOKES) tells(RefusalsTest::used, UNKNOWN, 0, j, 3);
        DUE.sentence(8, "one twice");
        tells(RefusalsTest::used, UNKNOWN, 0, 0, 0);
        tells(RefusalsTest::used, UNKNOWN, 1, 0, 1);
        tells(RefusalsTest::tellingsFull, UNKNOWN, 0, 0, 0);
        DUE.sentence(8, "NOT: one of both is not IN THE HALL");
        tells(RefusalsTest::used, NOT, 1, 0, 0);
        tells(RefusalsTest::used, NOT, 0, 0, 1);
        tells(RefusalsTest::used, NOT, 1, 0, 2);
        DUE.sentence(8, "REFUSALS, of several the first in this order");
        tells(RefusalsTest::used, UNKNOWN, 1, 2, 0);
        tells(RefusalsTest::used, UNKNOWN, 1, 0, 4);
        tells(RefusalsTest::used, UNKNOWN, 4, 0, 1);
        tells(RefusalsTest::tellingsFull, NOT, 0, 0, 2);
        tells(RefusalsTest::tellingsFull, NOT, 2, 0, 0);
        tells(RefusalsTest::tellingsFull, UNKNOWN, 2, 1, 0);
        tells(RefusalsTest::tellingsFull, UNKNOWN, 0, 0, 3);
        DUE.sentence(8, "FULL: TELLINGS are above 9000");
        tells(RefusalsTest::tellingsFull, FULL, 0, 0, 1);
        tells(RefusalsTest::tellingsFull, FULL, 1, 0, 0);
    }

    private static void nightAndDriftCalls() {
        DUE.sentence(9, "n NIGHTS (1 .. 20)");
        for (int n : new int[] {0, 21, -1, MIN, MAX}) {
            used(OUTSIDE, "night(" + n + ")", x -> x.night(n));
            refused(RefusalsTest::nightsFull, OUTSIDE, "night(" + n + ") above 900", x -> x.night(n));
            refused(LastLaugh::new, OUTSIDE, "new: night(" + n + ")", x -> x.night(n));
        }
        DUE.sentence(9, "FULL: NIGHTS are above 900");
        refused(RefusalsTest::nightsFull, FULL, "night(1)", x -> x.night(1));
        refused(RefusalsTest::nightsFull, FULL, "night(20)", x -> x.night(20));
        DUE.sentence(10, "n times BY DRAWS (1 .. 40)");
        for (int n : new int[] {0, 41, -1, MIN, MAX}) {
            used(OUTSIDE, "drift(" + n + ")", x -> x.drift(n));
            refused(RefusalsTest::tellingsFull, OUTSIDE, "drift(" + n + ") above 9000", x -> x.drift(n));
            refused(LastLaugh::new, OUTSIDE, "new: drift(" + n + ")", x -> x.drift(n));
        }
        DUE.sentence(10, "FULL: TELLINGS are above 9000");
        refused(RefusalsTest::tellingsFull, FULL, "drift(1)", x -> x.drift(1));
        refused(RefusalsTest::tellingsFull, FULL, "drift(40)", x -> x.drift(40));
    }

    private static void undoCalls() {
        DUE.sentence(11, "The n latest (1 .. 30)");
        for (int n : new int[] {0, 31, -1, MIN, MAX}) {
            used(OUTSIDE, "undo(" + n + ")", x -> x.undo(n));
            refused(LastLaugh::new, OUTSIDE, "new: undo(" + n + ")", x -> x.undo(n));
        }
        DUE.sentence(11, "NOT: not so many");
        used(NOT, "undo(3)", x -> x.undo(3));
        used(NOT, "undo(30)", x -> x.undo(30));
        refused(RefusalsTest::oneKept, NOT, "undo(1)", x -> x.undo(1));
    }

    private static void falls(int due, int l, int j, int at) {
        used(due, "falls(" + l + ", " + j + ", " + at + ")", x -> x.falls(l, j, at));
    }

    private static void fallsCalls() {
        DUE.sentence(12, "UNKNOWN");
        for (int l : NO_LORDS) {
            falls(UNKNOWN, l, 0, 3);
            falls(UNKNOWN, 3, 0, l);
        }
        for (int j : NO_JOKES) falls(UNKNOWN, 0, j, 3);
        falls(UNKNOWN, 0, 0, 0);
        DUE.sentence(12, "NOT: one of both is not IN THE HALL");
        falls(NOT, 1, 0, 0);
        falls(NOT, 0, 0, 1);
        falls(NOT, 1, 0, 2);
        DUE.sentence(12, "REFUSALS, of several the first in this order");
        falls(UNKNOWN, 1, 0, 1);
        falls(UNKNOWN, 1, 2, 0);
        falls(UNKNOWN, 1, 0, 4);
        falls(UNKNOWN, 4, 0, 1);
    }

    private static void duels(int due, int a, int b, int n, int what) {
        used(due, "duel(" + a + ", " + b + ", " + n + ", " + what + ")", x -> x.duel(a, b, n, what));
    }

    private static void aloneAndDuelCalls() {
        DUE.sentence(13, "UNKNOWN, NOT: he is not IN THE HALL");
        for (int i : new int[] {LastLaugh.NONE, 0, 3, MIN, MAX}) {
            for (int l : NO_LORDS) used(UNKNOWN, "alone(" + l + ", " + i + ")", x -> x.alone(l, i));
            for (int l = 1; l <= 2; l++) {
                int out = l;
                used(NOT, "alone(" + out + ", " + i + ")", x -> x.alone(out, i));
            }
        }
        DUE.sentence(14, "UNKNOWN");
        for (int l : NO_LORDS) {
            duels(UNKNOWN, l, 3, 1, 0);
            duels(UNKNOWN, 3, l, 1, 1);
        }
        duels(UNKNOWN, 0, 0, 1, 0);
        DUE.sentence(14, "n TELLINGS together (1 .. 3)");
        for (int n : new int[] {0, 4, -1, MIN, MAX}) duels(OUTSIDE, 0, 3, n, 0);
        DUE.sentence(14, "what = 0 what comes of it, 1 the first thing");
        for (int what : new int[] {-1, 2, MIN, MAX}) duels(OUTSIDE, 0, 3, 1, what);
        DUE.sentence(14, "NOT: one of both is not IN THE HALL");
        duels(NOT, 1, 0, 1, 0);
        duels(NOT, 0, 1, 3, 1);
        duels(NOT, 1, 2, 2, 0);
        DUE.sentence(14, "REFUSALS, of several the first in this order");
        duels(UNKNOWN, 4, 0, 0, 0);
        duels(UNKNOWN, 0, -1, 1, 2);
        duels(UNKNOWN, 0, 0, 4, 2);
        duels(UNKNOWN, 1, 1, 1, 0);
        duels(UNKNOWN, 1, 4, 1, 0);
        duels(OUTSIDE, 1, 0, 0, 0);
        duels(OUTSIDE, 0, 1, 4, 0);
        duels(OUTSIDE, 1, 2, 1, 2);
    }

    private static void drawsAndCoverCalls() {
        DUE.sentence(16, "UNKNOWN, NOT: he is not IN THE HALL");
        for (int l : NO_LORDS) used(UNKNOWN, "draws(" + l + ")", x -> x.draws(l));
        used(NOT, "draws(1)", x -> x.draws(1));
        used(NOT, "draws(2)", x -> x.draws(2));
        DUE.sentence(17, "UNKNOWN, NOT: he is not IN THE HALL");
        for (int l : NO_LORDS) used(UNKNOWN, "cover(" + l + ")", x -> x.cover(l));
        used(NOT, "cover(1)", x -> x.cover(1));
        used(NOT, "cover(2)", x -> x.cover(2));
    }

    private static void toldBys(int due, int l, int set) {
        DUE.sentence(18, "UNKNOWN, NOT: he is not IN THE HALL");
        for (int i : new int[] {LastLaugh.NONE, 0, MIN, MAX}) {
            used(due, "toldBy(" + l + ", " + set + ", " + i + ")", x -> x.toldBy(l, set, i));
        }
        DUE.sentence(19, "UNKNOWN, NOT: he is not IN THE HALL");
        used(due, "sure(" + l + ", " + set + ")", x -> x.sure(l, set));
    }

    private static void toldByCalls() {
        for (int l : NO_LORDS) toldBys(UNKNOWN, l, 0);
        for (int set : NO_SETS) {
            toldBys(UNKNOWN, 0, set);
            toldBys(UNKNOWN, 1, set);
        }
        toldBys(UNKNOWN, 4, 16);
        toldBys(NOT, 1, 0);
        toldBys(NOT, 2, 15);
        DUE.sentence(20, "UNKNOWN");
        for (int set : NO_SETS) used(UNKNOWN, "wired(" + set + ")", x -> x.wired(set));
    }

    private static void seenCalls() {
        for (int l : NO_LORDS) {
            DUE.sentence(21, "UNKNOWN, FULL (6)");
            used(UNKNOWN, "see(" + l + ", 0)", x -> x.see(l, 0, true));
            refused(RefusalsTest::seenFull, UNKNOWN, "see(" + l + ", 0) behind 6", x -> x.see(l, 0, false));
            DUE.sentence(22, "UNKNOWN");
            used(UNKNOWN, "tastes(" + l + ")", x -> x.tastes(l));
            DUE.sentence(23, "UNKNOWN, OUTSIDE");
            for (int what : new int[] {0, 1, 2, -1}) used(UNKNOWN, "sads(" + l + ", " + what + ")", x -> x.sads(l, what));
        }
        DUE.sentence(21, "UNKNOWN, FULL (6)");
        for (int j : NO_JOKES) {
            used(UNKNOWN, "see(0, " + j + ")", x -> x.see(0, j, true));
            refused(RefusalsTest::seenFull, UNKNOWN, "see(0, " + j + ") behind 6", x -> x.see(0, j, false));
        }
        refused(RefusalsTest::seenFull, FULL, "see(0, 0, true) behind 6", x -> x.see(0, 0, true));
        refused(RefusalsTest::seenFull, FULL, "see(3, 1, false) behind 6", x -> x.see(3, 1, false));
        DUE.sentence(23, "what = 0 the least, 1 the greatest");
        for (int what : new int[] {-1, 2, MIN, MAX}) used(OUTSIDE, "sads(0, " + what + ")", x -> x.sads(0, what));
    }

    private static void bookCalls() {
        DUE.sentence(24, "UNKNOWN, OUTSIDE, FULL (20)");
        for (int set : NO_SETS) {
            for (int tellings : new int[] {0, 999, 1000, -1}) {
                used(UNKNOWN, "write(" + tellings + ", " + set + ")", x -> x.write(tellings, set));
            }
            refused(RefusalsTest::bookFull, UNKNOWN, "write(0, " + set + ") behind 20", x -> x.write(0, set));
        }
        for (int tellings : new int[] {-1, 1000, MIN, MAX}) {
            used(OUTSIDE, "write(" + tellings + ", 0)", x -> x.write(tellings, 0));
            refused(RefusalsTest::bookFull, OUTSIDE, "write(" + tellings + ", 0) behind 20", x -> x.write(tellings, 0));
        }
        refused(RefusalsTest::bookFull, FULL, "write(0, 0) behind 20", x -> x.write(0, 0));
        refused(RefusalsTest::bookFull, FULL, "write(999, 15) behind 20", x -> x.write(999, 15));
    }

    private static void imageCalls() {
        DUE.sentence(27, "OUTSIDE");
        for (int v : new int[] {-1, -2, MIN}) used(OUTSIDE, "seed(" + v + ")", x -> x.seed(v));
        for (int i : NO_IMAGES) {
            DUE.sentence(28, "UNKNOWN");
            used(UNKNOWN, "keep(" + i + ")", x -> x.keep(i));
            DUE.sentence(29, "UNKNOWN");
            used(UNKNOWN, "goBack(" + i + ")", x -> x.goBack(i));
            refused(LastLaugh::new, UNKNOWN, "new: goBack(" + i + ")", x -> x.goBack(i));
        }
        DUE.sentence(29, "NOT: it was not kept");
        refused(RefusalsTest::oneKept, NOT, "goBack(0)", x -> x.goBack(0));
        refused(LastLaugh::new, NOT, "new: goBack(1)", x -> x.goBack(1));
    }

    private static void without(int promise, int due, String call, ToIntFunction<LastLaugh> on) {
        DUE.sentence(promise, due == NOT ? "NOT: no HALL" : "UNKNOWN (a LORD, JOKE, IMAGE that there is not");
        refused(LastLaugh::new, due, "new: " + call, on);
        refused(() -> Due.feed(new LastLaugh(), "h9"), due, "behind a text: " + call, on);
    }

    private static void withoutAHall() {
        without(6, UNKNOWN, "lord(0, 0)", x -> x.lord(0, 0));
        without(7, UNKNOWN, "joke(0, 0)", x -> x.joke(0, 0));
        without(8, UNKNOWN, "tell(0, 0, 1)", x -> x.tell(0, 0, 1));
        without(9, NOT, "night(1)", x -> x.night(1));
        without(9, NOT, "night(20)", x -> x.night(20));
        without(10, NOT, "drift(1)", x -> x.drift(1));
        without(10, NOT, "drift(40)", x -> x.drift(40));
        without(12, UNKNOWN, "falls(0, 0, 1)", x -> x.falls(0, 0, 1));
        without(13, UNKNOWN, "alone(0, NONE)", x -> x.alone(0, LastLaugh.NONE));
        without(14, UNKNOWN, "duel(0, 1, 1, 0)", x -> x.duel(0, 1, 1, 0));
        without(16, UNKNOWN, "draws(0)", x -> x.draws(0));
        without(17, UNKNOWN, "cover(0)", x -> x.cover(0));
        without(18, UNKNOWN, "toldBy(0, 0, NONE)", x -> x.toldBy(0, 0, LastLaugh.NONE));
        without(19, UNKNOWN, "sure(0, 0)", x -> x.sure(0, 0));
        without(20, UNKNOWN, "wired(1)", x -> x.wired(1));
        without(21, UNKNOWN, "see(0, 0, true)", x -> x.see(0, 0, true));
        without(22, UNKNOWN, "tastes(0)", x -> x.tastes(0));
        without(23, UNKNOWN, "sads(0, 0)", x -> x.sads(0, 0));
        without(24, UNKNOWN, "write(0, 1)", x -> x.write(0, 1));
    }
}
