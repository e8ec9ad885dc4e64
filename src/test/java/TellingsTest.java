/** Promises 8 to 11: tellings, nights, draws, what is undone. */
public final class TellingsTest {
    private static final Due DUE = new Due();
    private static final String THREE = "h1 2;l0 8 1;l0 3 0;l1 6 1;j0 12;j1 20;";
    private static final String DULL = "h5 1;l0 20 0;l1 20 0;j0 30;";

    public static void main(String[] args) {
        amused();
        understood();
        catching();
        tellRefused();
        nights();
        nightsRefused();
        drifting();
        driftEnds();
        driftRefused();
        undone();
        undoneKeepsThirty();
        DUE.end("TellingsTest");
    }

    private static void tells(String text, int l, int j, int at, int due) {
        LastLaugh x = Due.hall(text);
        int all = x.told(8);
        DUE.is("falls(" + l + ", " + j + ", " + at + ") in " + text, x.falls(l, j, at), due);
        DUE.is("tell(" + l + ", " + j + ", " + at + ") in " + text, x.tell(l, j, at), due);
        DUE.is("in the hall then", x.told(8), all & ~due);
        DUE.is("out by it", x.told(10), due);
        DUE.is("tellings", x.told(7), 1);
        DUE.is("times told", x.joke(j, 3), 1);
    }

    private static void amused() {
        tells(THREE, 0, 0, 2, 6);
        tells(THREE, 1, 0, 0, 5);
        tells(THREE, 1, 0, 2, 4);
        tells(THREE, 2, 0, 0, 3);
        tells(THREE, 2, 0, 1, 2);
        // fun 7, no taste, not looked at: 7 / 2 / 2 is 1; looked at: 3; taste, not looked at: 3.
        tells("h0 0;l0 1 0;l1 1 0;l2 2 0;j0 7;", 0, 0, 2, 6);
        tells("h0 0;l0 1 0;l1 2 0;l2 3 0;j0 7;", 0, 0, 2, 4);
        tells("h0 0;l0 1 0;l1 3 1;l2 4 0;j0 7;", 0, 0, 2, 2);
        tells("h0 0;l0 1 0;l1 7 1;l2 8 1;j0 7;", 0, 0, 1, 2);
        tells("h0 0;l0 1 0;l1 7 1;l2 8 1;j0 7;", 0, 0, 2, 0);
    }

    private static void understood() {
        tells(THREE, 2, 1, 0, 0);
        tells("h2 0;l0 1 1;l1 1 1;l2 1 0;j0 30;", 0, 0, 1, 0);
        tells("h2 0;l0 1 1;l1 1 1;l2 1 0;j0 30;", 2, 0, 1, 3);
        tells("h1 0;l0 1 1;l1 1 1;l2 1 0;j0 30;", 0, 0, 1, 6);
        LastLaugh x = Due.hall("h1 0;l0 20 1;l1 1 1;l2 20 0;j0 30;");
        DUE.is("who understood it is out", x.tell(0, 0, 1), 2);
        DUE.is("now nobody understands it", x.tell(0, 0, 2), 0);
        DUE.is("both were counted", x.told(7), 2);
    }

    private static void catching() {
        String bench = "h0 0;l0 2 0;l0 3 0;l0 6 0;l0 9 0;l0 13 0;l1 1 0;j0 4;";
        tells(bench, 5, 0, 0, 15);
        // Who tells does not laugh, and is not counted.
        tells(bench, 1, 0, 0, 33);
        // Those on another bench do not catch it.
        tells("h0 0;l0 2 0;l1 3 0;l0 6 0;j0 4;l1 20 0;", 3, 0, 0, 1);
        // Later ones pull in earlier ones.
        tells("h0 0;l0 6 0;l0 3 0;l0 2 0;j0 4;l1 20 0;", 3, 0, 2, 7);
        LastLaugh x = Due.hall("h0 0;l0 1 1;l0 3 0;l0 9 0;l1 20 0;j0 1;j0 3;");
        DUE.is("two laugh", x.tell(3, 0, 0), 3);
        DUE.is("who is out pulls in nobody", x.tell(3, 1, 2), 0);
    }

    private static void tellRefused() {
        LastLaugh x = Due.hall(THREE);
        int[][] unknown = {{-1, 0, 1}, {3, 0, 1}, {0, 2, 1}, {0, -1, 1}, {0, 0, 3}, {0, 0, -1}, {1, 0, 1}};
        for (int[] c : unknown) DUE.is("tell of what there is not", x.tell(c[0], c[1], c[2]), LastLaugh.UNKNOWN);
        DUE.is("nothing was told", x.told(7), 0);
        DUE.is("nothing can be undone", x.told(13), 0);
        x.tell(1, 0, 2);
        DUE.is("who is out tells", x.tell(2, 0, 0), LastLaugh.NOT);
        DUE.is("who is out is looked at", x.tell(0, 0, 2), LastLaugh.NOT);
        DUE.is("out and twice", x.tell(2, 0, 2), LastLaugh.UNKNOWN);
        DUE.is("refused ones are not counted", x.told(7), 1);
        DUE.is("refused ones wear no joke", x.joke(0, 3), 1);
        x = Due.hall(DULL);
        for (int i = 0; i < 225; i++) x.drift(40);
        DUE.is("9000 tellings", x.told(7), 9000);
        DUE.is("the 9001st", x.tell(0, 0, 1), 0);
        DUE.is("the 9002nd", x.tell(0, 0, 1), LastLaugh.FULL);
        DUE.is("unknown comes ahead of full", x.tell(0, 0, 0), LastLaugh.UNKNOWN);
        DUE.is("9001 tellings", x.told(7), 9001);
        DUE.is("drift above 9000", x.drift(1), LastLaugh.FULL);
        DUE.is("falls above 9000", x.falls(0, 0, 1), 0);
    }

    private static void nights() {
        LastLaugh x = Due.hall(THREE);
        x.tell(2, 1, 0);
        x.tell(2, 1, 0);
        x.tell(2, 0, 1);
        DUE.is("night(1)", x.night(1), 1);
        DUE.is("told one time less", x.joke(1, 3), 1);
        DUE.is("fun is back by one", x.joke(1, 2), 10);
        DUE.is("told no more", x.joke(0, 3), 0);
        DUE.is("hold of 8", x.lord(0, 3), 6);
        DUE.is("hold of 3", x.lord(1, 3), 1);
        DUE.is("out by the latest telling yet", x.told(10), 2);
        DUE.is("a night makes one laugh at less", x.falls(2, 0, 0), 1);
        DUE.is("night(20)", x.night(20), 21);
        DUE.is("not less than never", x.joke(0, 3), 0);
        DUE.is("fun as told", x.joke(1, 2), 20);
        DUE.is("tellings are as they were", x.told(7), 3);
    }

    private static void nightsRefused() {
        LastLaugh x = Due.hall("h0 3;l0 20 0;");
        DUE.is("night(0)", x.night(0), LastLaugh.OUTSIDE);
        DUE.is("night(21)", x.night(21), LastLaugh.OUTSIDE);
        DUE.is("night(-1)", x.night(-1), LastLaugh.OUTSIDE);
        for (int i = 1; i <= 45; i++) x.night(20);
        DUE.is("900 nights", x.told(6), 900);
        DUE.is("on to 920", x.night(20), 920);
        x.undo(19);
        DUE.is("901 are above 900", x.night(1), LastLaugh.FULL);
        x.undo(1);
        DUE.is("900 are not", x.night(20), 920);
        DUE.is("above 900", x.night(1), LastLaugh.FULL);
        DUE.is("outside comes ahead of full", x.night(0), LastLaugh.OUTSIDE);
        DUE.is("920 yet", x.told(6), 920);
    }

    /**
     * From seed 0: 12345 / 65536 = 0, left over by 2: lord 0; 1406932606 / 65536 = 21468, left over by 1: joke 0;
     * 654583775 / 65536 = 9988: of one, lord 1; 1449466924 / 65536 = 22117, left over by 6: 1, no night.
     */
    private static void drifting() {
        LastLaugh x = Due.hall("h0 0;l0 20 0;l1 20 0;j0 1;");
        DUE.is("drift(1)", x.drift(1), 3);
        DUE.is("four draws", x.seed(0), 1449466924);
        DUE.is("one telling", x.told(7), 1);
        DUE.is("no night", x.told(6), 0);
        long seed = 0;
        int nights = 0;
        x = Due.hall("h0 0;l0 20 0;l1 20 0;j0 1;");
        for (int i = 1; i <= 40; i++) {
            for (int d = 0; d < 4; d++) seed = (seed * 1103515245L + 12345L) % (1L << 31);
            if (seed / 65536 % 6 == 0) nights++;
            x.drift(1);
            DUE.is("nights behind " + i + " times", x.told(6), nights);
            DUE.is("to be undone", x.told(13), Math.min(30, i + nights));
        }
        DUE.holds("a night came by draws", nights > 0);
        DUE.is("the seed then", x.seed(0), seed);
    }

    private static void driftEnds() {
        LastLaugh x = Due.hall("h0 0;l0 1 1;l1 1 1;l2 1 1;j0 30;");
        int left = x.drift(40);
        DUE.is("all laugh at the first", Integer.bitCount(left), 1);
        DUE.is("one telling was enough", x.told(7), 1);
        x.seed(9);
        DUE.is("nothing more comes", x.drift(40), left);
        DUE.is("no draw was made", x.seed(0), 9);
        x = Due.hall("h0 0;l0 1 1;l1 1 1;");
        x.seed(9);
        DUE.is("without jokes", x.drift(40), 3);
        DUE.is("no draw without jokes", x.seed(0), 9);
    }

    private static void driftRefused() {
        LastLaugh x = Due.hall(DULL);
        DUE.is("drift(0)", x.drift(0), LastLaugh.OUTSIDE);
        DUE.is("drift(41)", x.drift(41), LastLaugh.OUTSIDE);
        DUE.is("no draw was made", x.seed(0), 0);
        for (int i = 0; i < 225; i++) x.drift(40);
        DUE.is("9000 tellings are not above 9000", x.drift(40), 3);
        DUE.is("9040 tellings", x.told(7), 9040);
        DUE.is("above 9000", x.drift(1), LastLaugh.FULL);
        DUE.is("outside comes ahead of full", x.drift(0), LastLaugh.OUTSIDE);
    }

    private static void undone() {
        LastLaugh x = Due.hall(THREE);
        x.tell(2, 0, 1);
        x.night(3);
        x.tell(0, 1, 2);
        x.tell(0, 0, 2);
        DUE.is("to be undone", x.told(13), 6);
        DUE.is("king", x.told(9), 0);
        DUE.is("undo(0)", x.undo(0), LastLaugh.OUTSIDE);
        DUE.is("undo(31)", x.undo(31), LastLaugh.OUTSIDE);
        DUE.is("undo(7)", x.undo(7), LastLaugh.NOT);
        DUE.is("undo(1)", x.undo(1), 2);
        DUE.is("no king", x.told(9), -1);
        DUE.is("lord 2 is in again", x.lord(2, 4), -1);
        DUE.is("the joke is as it was", x.joke(0, 3), 0);
        DUE.is("out by the telling that is the latest now", x.told(10), 0);
        DUE.is("undo(2): a telling and a night", x.undo(2), 1);
        DUE.is("nights", x.told(6), 2);
        DUE.is("undo(2): two nights", x.undo(2), 1);
        DUE.is("no night", x.told(6), 0);
        DUE.is("told as often as before the nights", x.joke(0, 3), 1);
        DUE.is("out by the first telling", x.told(10), 2);
        DUE.is("undo(1): the first telling", x.undo(1), 0);
        DUE.is("all are in", x.told(8), 7);
        DUE.is("nobody was out", x.told(10), 0);
        DUE.is("nothing more", x.undo(1), LastLaugh.NOT);
        x.seed(0);
        x.drift(1);
        x.undo(1);
        DUE.is("the seed stays", x.seed(0), 1449466924);
    }

    private static void undoneKeepsThirty() {
        LastLaugh x = Due.hall(DULL);
        for (int i = 0; i < 37; i++) x.tell(i % 2, 0, 1 - i % 2);
        DUE.is("30 are kept", x.told(13), 30);
        DUE.is("undo(5)", x.undo(5), 32);
        DUE.is("25 are left", x.told(13), 25);
        x.tell(0, 0, 1);
        DUE.is("undo(26)", x.undo(26), 7);
        DUE.is("none is left", x.told(13), 0);
        DUE.is("undo(1)", x.undo(1), LastLaugh.NOT);
        DUE.is("told seven times", x.joke(0, 3), 7);
    }
}
