/** Promises 27 to 29: the seed, images to go on from. */
public final class ImagesTest {
    private static final Due DUE = new Due();
    private static final String TEXT = "h0 1;l0 6 1;l1 9 1;l2 20 1;j0 12;j0 18;";

    public static void main(String[] args) {
        seed();
        keepAndGoBack();
        twoImages();
        whatAnImageLeavesOut();
        withoutAHall();
        DUE.end("ImagesTest");
    }

    /** Promise 27. */
    private static void seed() {
        LastLaugh x = new LastLaugh();
        DUE.is("seed(-1)", x.seed(-1), LastLaugh.OUTSIDE);
        DUE.is("seed(MIN)", x.seed(Integer.MIN_VALUE), LastLaugh.OUTSIDE);
        DUE.is("seed(7)", x.seed(7), 0);
        DUE.is("seed(MAX)", x.seed(Integer.MAX_VALUE), 7);
        DUE.is("seed(0)", x.seed(0), 2147483647);
        LastLaugh a = Due.hall("h5 0;l0 20 0;l1 20 0;j0 1;");
        a.seed(2147483647);
        a.drift(1);
        long s = 2147483647L;
        for (int d = 0; d < 4; d++) s = (s * 1103515245L + 12345L) % 2147483648L;
        DUE.is("from the greatest seed on", a.seed(0), s);
    }

    private static void state(LastLaugh x, String when, int... due) {
        int[] what = {6, 7, 8, 10, 13};
        for (int i = 0; i < what.length; i++) DUE.is(when + ": told(" + what[i] + ")", x.told(what[i]), due[i]);
    }

    /** Promises 28 and 29. */
    private static void keepAndGoBack() {
        LastLaugh x = Due.hall(TEXT);
        DUE.is("keep(2)", x.keep(2), LastLaugh.UNKNOWN);
        DUE.is("keep(-1)", x.keep(-1), LastLaugh.UNKNOWN);
        DUE.is("goBack(2)", x.goBack(2), LastLaugh.UNKNOWN);
        DUE.is("goBack(-1)", x.goBack(-1), LastLaugh.UNKNOWN);
        DUE.is("goBack(0)", x.goBack(0), LastLaugh.NOT);
        x.tell(2, 0, 0);
        x.night(2);
        x.tell(2, 0, 1);
        x.seed(31);
        state(x, "ahead of it", 2, 2, 4, 2, 4);
        DUE.is("keep(1)", x.keep(1), 1);
        state(x, "kept", 2, 2, 4, 2, 0);
        DUE.is("undo(1)", x.undo(1), LastLaugh.NOT);
        DUE.is("goBack(0), which was not kept", x.goBack(0), LastLaugh.NOT);
        x.night(3);
        x.seed(4);
        state(x, "on from it", 5, 2, 4, 2, 3);
        DUE.is("goBack(1)", x.goBack(1), 1);
        state(x, "back", 2, 2, 4, 2, 0);
        DUE.is("the seed of it", x.seed(0), 31);
        DUE.is("undo(1)", x.undo(1), LastLaugh.NOT);
        DUE.is("lord(0, 4)", x.lord(0, 4), 1);
        DUE.is("lord(1, 4)", x.lord(1, 4), 2);
        DUE.is("lord(1, 3)", x.lord(1, 3), 7);
        DUE.is("joke(0, 3)", x.joke(0, 3), 1);
        DUE.is("king", x.told(9), 2);
        x.night(1);
        DUE.is("goBack(1) again", x.goBack(1), 1);
        state(x, "back again", 2, 2, 4, 2, 0);
    }

    private static void twoImages() {
        LastLaugh x = Due.hall(TEXT);
        x.keep(0);
        x.tell(2, 1, 1);
        x.keep(1);
        x.night(1);
        x.goBack(0);
        state(x, "image 0", 0, 0, 7, 0, 0);
        x.goBack(1);
        state(x, "image 1", 0, 1, 4, 3, 0);
        x.night(4);
        DUE.is("keep(0) anew", x.keep(0), 1);
        x.goBack(1);
        x.goBack(0);
        state(x, "image 0 anew", 4, 1, 4, 3, 0);
    }

    private static void whatAnImageLeavesOut() {
        LastLaugh x = Due.hall(TEXT);
        x.see(0, 0, true);
        x.keep(0);
        x.see(0, 1, true);
        x.write(0, 7);
        x.feed('h');
        x.goBack(0);
        DUE.is("what was seen stays", x.told(11), 2);
        DUE.is("the book stays", x.told(12), 1);
        DUE.is("the text stays", x.told(5), 1);
    }

    private static void withoutAHall() {
        LastLaugh x = new LastLaugh();
        x.seed(8);
        DUE.is("keep(0) without a hall", x.keep(0), 1);
        x.seed(9);
        DUE.is("goBack(0) without a hall", x.goBack(0), 1);
        DUE.is("its seed", x.seed(1), 8);
        Due.feed(x, TEXT).hall();
        DUE.is("goBack(0) in a hall told since", x.goBack(0), LastLaugh.NOT);
        DUE.is("all are in", x.told(8), 7);
    }
}
