/** Promises 27 to 29: each sentence on the seed and images that names a boundary has a test of its own. */
public final class ImagesEdgesTest {
    private static final Due DUE = new Due();
    private static final int MIN = Integer.MIN_VALUE, MAX = Integer.MAX_VALUE;
    private static final String TEXT = "h0 1;l0 6 1;l1 9 1;l2 20 1;j0 12;j0 18;";

    public static void main(String[] args) {
        seedBounds();
        seedAtFirst();
        seedWithoutAHall();
        imagesZeroAndOne();
        imageBecomesWhatIsSo();
        nothingUndoneBehindKeep();
        nothingUndoneBehindGoBack();
        goBackNotKept();
        goneWithAHall();
        allOfSectionTwo();
        theSeedOfAnImage();
        whatAnImageLeaves();
        fullNoMore();
        DUE.end("ImagesEdgesTest");
    }

    // ---- promise 27

    private static void seedBounds() {
        DUE.sentence(27, "THE SEED becomes v (0 .. 2147483647): what it was. OUTSIDE");
        LastLaugh x = new LastLaugh();
        DUE.is("seed(MAX)", x.seed(MAX), 0);
        DUE.is("seed(-1)", x.seed(-1), LastLaugh.OUTSIDE);
        DUE.is("seed(MIN)", x.seed(MIN), LastLaugh.OUTSIDE);
        DUE.is("seed(0)", x.seed(0), 2147483647);
        DUE.is("seed(1)", x.seed(1), 0);
        DUE.is("seed(2)", x.seed(2), 1);
    }

    private static void seedAtFirst() {
        DUE.sentence(27, "THE SEED (0 at first");
        DUE.is("new", new LastLaugh().seed(7), 0);
        DUE.is("a hall", Due.hall(TEXT).seed(7), 0);
    }

    private static void seedWithoutAHall() {
        DUE.sentence(27, "what it was");
        LastLaugh x = new LastLaugh();
        x.seed(7);
        Due.feed(x, TEXT).hall();
        DUE.is("put ahead of the hall", x.seed(8), 7);
        x.hall();
        DUE.is("put ahead of the empty text", x.seed(9), 8);
    }

    // ---- promises 28 and 29

    private static void imagesZeroAndOne() {
        DUE.sentence(28, "IMAGES 0, 1");
        LastLaugh x = Due.hall(TEXT);
        DUE.is("keep(0)", x.keep(0), 1);
        DUE.is("keep(1)", x.keep(1), 1);
        DUE.is("keep(0) again", x.keep(0), 1);
        DUE.is("goBack(0)", x.goBack(0), 1);
        DUE.is("goBack(1)", x.goBack(1), 1);
        for (int i : new int[] {-1, 2, MIN, MAX}) {
            DUE.is("keep(" + i + ")", x.keep(i), LastLaugh.UNKNOWN);
            DUE.is("goBack(" + i + ")", x.goBack(i), LastLaugh.UNKNOWN);
        }
        x = new LastLaugh();
        x.seed(8);
        DUE.is("no hall: keep(1)", x.keep(1), 1);
        x.seed(9);
        DUE.is("no hall: goBack(1)", x.goBack(1), 1);
        DUE.is("no hall: its seed", x.seed(0), 8);
    }

    private static void imageBecomesWhatIsSo() {
        DUE.sentence(28, "IMAGE i becomes what is so");
        LastLaugh x = Due.hall(TEXT);
        x.keep(0);
        x.night(1);
        x.keep(1);
        x.night(1);
        x.goBack(0);
        DUE.is("image 0", x.told(6), 0);
        x.goBack(1);
        DUE.is("image 1", x.told(6), 1);
        x.night(3);
        x.keep(0);
        x.goBack(1);
        DUE.is("image 1 is as it was", x.told(6), 1);
        x.goBack(0);
        DUE.is("image 0 anew", x.told(6), 4);
        x.night(1);
        x.goBack(0);
        DUE.is("image 0 again", x.told(6), 4);
    }

    private static void nothingUndoneBehindKeep() {
        DUE.sentence(28, "(nothing can be undone then)");
        LastLaugh x = Due.hall(TEXT);
        x.night(5);
        DUE.is("ahead of it", x.told(13), 5);
        x.keep(0);
        DUE.is("told(13)", x.told(13), 0);
        DUE.is("undo(1)", x.undo(1), LastLaugh.NOT);
        DUE.is("the nights stay", x.told(6), 5);
        x.night(1);
        x.keep(3);
        DUE.is("keep(3) was refused", x.told(13), 1);
    }

    private static void nothingUndoneBehindGoBack() {
        DUE.sentence(29, "(nothing can be undone then)");
        LastLaugh x = Due.hall(TEXT);
        x.keep(1);
        x.night(5);
        x.goBack(0);
        DUE.is("goBack(0) was refused", x.told(13), 5);
        x.goBack(1);
        DUE.is("told(13)", x.told(13), 0);
        DUE.is("undo(1)", x.undo(1), LastLaugh.NOT);
        x.night(2);
        DUE.is("since it", x.told(13), 2);
        DUE.is("undo(2)", x.undo(2), 0);
        DUE.is("told(6)", x.told(6), 0);
    }

    private static void goBackNotKept() {
        DUE.sentence(29, "NOT: it was not kept");
        LastLaugh x = Due.hall(TEXT);
        DUE.is("goBack(0)", x.goBack(0), LastLaugh.NOT);
        DUE.is("goBack(1)", x.goBack(1), LastLaugh.NOT);
        x.keep(0);
        DUE.is("goBack(1), image 0 was kept", x.goBack(1), LastLaugh.NOT);
        DUE.is("goBack(0)", x.goBack(0), 1);
        x = Due.hall(TEXT);
        x.keep(1);
        DUE.is("goBack(0), image 1 was kept", x.goBack(0), LastLaugh.NOT);
        DUE.is("goBack(1)", x.goBack(1), 1);
    }

    private static void goneWithAHall() {
        DUE.sentence(29, "IMAGES, what could be undone are gone");
        LastLaugh x = Due.hall(TEXT);
        x.keep(0);
        x.keep(1);
        Due.feed(x, "h9").hall();
        DUE.is("goBack(0) behind a fault", x.goBack(0), 1);
        DUE.is("goBack(1) behind a fault", x.goBack(1), 1);
        Due.feed(x, TEXT).hall();
        DUE.is("goBack(0) behind the same text", x.goBack(0), LastLaugh.NOT);
        DUE.is("goBack(1) behind the same text", x.goBack(1), LastLaugh.NOT);
    }

    private static void allOfSectionTwo() {
        DUE.sentence(29, "IMAGES 0, 1 keep all of section 2, THE SEED");
        LastLaugh x = Due.hall(TEXT);
        x.tell(2, 0, 0);
        x.night(2);
        x.tell(2, 1, 1);
        x.keep(1);
        x.night(7);
        x.goBack(1);
        int[][] due = {{6, 2}, {7, 2}, {8, 4}, {9, 2}, {10, 2}, {13, 0}};
        for (int[] d : due) DUE.is("told(" + d[0] + ")", x.told(d[0]), d[1]);
        DUE.is("lord(0, 4)", x.lord(0, 4), 1);
        DUE.is("lord(1, 4)", x.lord(1, 4), 2);
        DUE.is("lord(2, 4)", x.lord(2, 4), LastLaugh.NONE);
        DUE.is("lord(2, 3)", x.lord(2, 3), 18);
        DUE.is("joke(0, 3)", x.joke(0, 3), 0);
        DUE.is("joke(1, 3)", x.joke(1, 3), 1);
        x = Due.hall(TEXT);
        x.keep(0);
        x.tell(2, 0, 0);
        x.tell(2, 1, 1);
        x.goBack(0);
        DUE.is("as at first: told(8)", x.told(8), 7);
        DUE.is("as at first: told(10)", x.told(10), 0);
        DUE.is("as at first: lord(0, 4)", x.lord(0, 4), LastLaugh.NONE);
        DUE.is("as at first: joke(1, 3)", x.joke(1, 3), 0);
    }

    private static void theSeedOfAnImage() {
        DUE.sentence(29, "keep all of section 2, THE SEED");
        LastLaugh x = Due.hall(TEXT);
        x.seed(MAX);
        x.keep(0);
        x.seed(0);
        x.keep(1);
        x.seed(5);
        x.goBack(0);
        DUE.is("the seed of image 0", x.seed(6), MAX);
        x.goBack(1);
        DUE.is("the seed of image 1", x.seed(7), 0);
        x.goBack(0);
        int left = x.drift(3);
        int then = x.seed(8);
        x.goBack(0);
        DUE.is("the same draws again", x.drift(3), left);
        DUE.is("and the same seed then", x.seed(9), then);
    }

    private static void whatAnImageLeaves() {
        DUE.sentence(29, "What is so becomes IMAGE i");
        LastLaugh x = Due.hall(TEXT);
        x.keep(0);
        x.see(0, 0, true);
        x.write(0, 0);
        x.feed('h');
        x.goBack(0);
        DUE.is("what was seen is not of section 2", x.told(11), 1);
        DUE.is("the book is not", x.told(12), 1);
        DUE.is("the text is not", x.told(5), 1);
        x.keep(1);
        DUE.is("keep leaves what was seen", x.told(11), 1);
        DUE.is("keep leaves the book", x.told(12), 1);
        DUE.is("keep leaves the text", x.told(5), 1);
    }

    private static void fullNoMore() {
        DUE.sentence(29, "What is so becomes IMAGE i");
        LastLaugh x = Due.hall("h0 0;l0 20 0;l1 20 0;j0 1;");
        x.keep(0);
        for (int i = 0; i < 46; i++) x.night(20);
        DUE.is("above 900", x.night(1), LastLaugh.FULL);
        x.goBack(0);
        DUE.is("none went by", x.night(1), 1);
    }
}
