/** Promises 21 to 26: what was seen, the book. */
public final class SeenTest {
    private static final Due DUE = new Due();
    private static final String TEXT = "h5 2;l0 6 1;l0 9 3;l1 20 15;j0 12;j1 8;j2 30;j1 7;";

    public static void main(String[] args) {
        see();
        tastes();
        sads();
        asNothingWasTold();
        write();
        judge();
        tear();
        DUE.end("SeenTest");
    }

    /** Promise 21. */
    private static void see() {
        LastLaugh x = Due.hall(TEXT);
        DUE.is("see(3, 0)", x.see(3, 0, true), LastLaugh.UNKNOWN);
        DUE.is("see(-1, 0)", x.see(-1, 0, true), LastLaugh.UNKNOWN);
        DUE.is("see(0, 4)", x.see(0, 4, true), LastLaugh.UNKNOWN);
        DUE.is("see(0, -1)", x.see(0, -1, true), LastLaugh.UNKNOWN);
        for (int i = 1; i <= 6; i++) DUE.is("see, the " + i + "th", x.see(i % 3, i % 4, true), i);
        DUE.is("see, the 7th", x.see(0, 0, true), LastLaugh.FULL);
        DUE.is("unknown comes ahead of full", x.see(3, 0, true), LastLaugh.UNKNOWN);
        DUE.is("six were seen", x.told(11), 6);
    }

    /** Promise 22: bit t is kept if he with tastes t and his own sad does as seen. */
    private static void tastes() {
        LastLaugh x = Due.hall(TEXT);
        DUE.is("nothing was seen", x.tastes(0), 65535);
        x.see(0, 0, true);
        DUE.is("12 and its half 6 are enough for 6", x.tastes(0), 65535);
        x.see(0, 1, true);
        DUE.is("8 is enough for 6, 4 is not", x.tastes(0), 0xcccc);
        DUE.is("of another lord nothing was seen", x.tastes(1), 65535);
        x.see(1, 0, false);
        DUE.is("12 is enough for 9, 6 is not", x.tastes(1), 0x5555);
        x.see(1, 0, true);
        DUE.is("both can not be", x.tastes(1), 0);
        x.see(2, 2, false);
        DUE.is("30 is enough for 20, 15 is not", x.tastes(2), 0x0f0f);
        DUE.is("tastes(3)", x.tastes(3), LastLaugh.UNKNOWN);
        DUE.is("tastes(-1)", x.tastes(-1), LastLaugh.UNKNOWN);
    }

    private static void sads(LastLaugh x, int l, int least, int greatest) {
        DUE.is("sads(" + l + ", 0)", x.sads(l, 0), least);
        DUE.is("sads(" + l + ", 1)", x.sads(l, 1), greatest);
    }

    /** Promise 23. */
    private static void sads() {
        LastLaugh x = Due.hall(TEXT);
        sads(x, 0, 1, 20);
        x.see(0, 0, true);
        sads(x, 0, 1, 12);
        x.see(0, 3, false);
        sads(x, 0, 4, 12);
        x.see(0, 1, true);
        sads(x, 0, 4, 4);
        x.see(0, 1, false);
        sads(x, 0, -1, -1);
        sads(x, 1, 1, 20);
        x.see(1, 2, false);
        sads(x, 1, 16, 20);
        x.see(2, 2, false);
        sads(x, 2, -1, -1);
        DUE.is("sads(0, 2)", x.sads(0, 2), LastLaugh.OUTSIDE);
        DUE.is("sads(0, -1)", x.sads(0, -1), LastLaugh.OUTSIDE);
        DUE.is("sads(3, 2)", x.sads(3, 2), LastLaugh.UNKNOWN);
    }

    private static void asNothingWasTold() {
        LastLaugh x = Due.hall("h0 2;l0 6 1;l1 20 15;j0 12;");
        x.tell(0, 0, 1);
        x.tell(1, 0, 0);
        x.night(1);
        x.see(0, 0, true);
        sads(x, 0, 1, 12);
        DUE.is("with sad 6", x.tastes(0), 65535);
        DUE.is("he is out, and was seen yet", x.lord(0, 4), 2);
    }

    /** Promise 24. */
    private static void write() {
        LastLaugh x = Due.hall(TEXT);
        DUE.is("write(0, 8)", x.write(0, 8), LastLaugh.UNKNOWN);
        DUE.is("write(0, -1)", x.write(0, -1), LastLaugh.UNKNOWN);
        DUE.is("write(1000, 8)", x.write(1000, 8), LastLaugh.UNKNOWN);
        DUE.is("write(1000, 7)", x.write(1000, 7), LastLaugh.OUTSIDE);
        DUE.is("write(-1, 7)", x.write(-1, 7), LastLaugh.OUTSIDE);
        DUE.is("write(999, 7)", x.write(999, 7), 1);
        for (int i = 2; i <= 20; i++) DUE.is("write, the " + i + "th", x.write(0, 0), i);
        DUE.is("write, the 21st", x.write(0, 0), LastLaugh.FULL);
        DUE.is("outside comes ahead of full", x.write(1000, 0), LastLaugh.OUTSIDE);
        DUE.is("twenty entries", x.told(12), 20);
    }

    /** Promise 25. */
    private static void judge() {
        LastLaugh x = Due.hall("h0 0;l0 6 1;l1 9 1;l2 20 1;j0 12;");
        DUE.is("no book", x.judge(), -1);
        x.write(1, 7);
        x.write(0, 7);
        DUE.is("so it is", x.judge(), -1);
        x.write(0, 6);
        x.write(0, 5);
        DUE.is("the first that is otherwise", x.judge(), 2);
        x.tell(2, 0, 0);
        DUE.is("now the entry for one telling counts", x.judge(), 0);
        x.tell(2, 0, 1);
        DUE.is("there is none for two", x.judge(), -1);
        x.undo(2);
        DUE.is("undone", x.judge(), 2);
    }

    /** Promise 26. */
    private static void tear() {
        LastLaugh x = Due.hall(TEXT);
        x.see(0, 0, false);
        x.see(0, 1, false);
        x.write(0, 1);
        DUE.is("tear()", x.tear(), 3);
        DUE.is("nothing seen", x.told(11), 0);
        DUE.is("no book", x.told(12), 0);
        DUE.is("nothing is wrong", x.judge(), -1);
        DUE.is("all can be", x.tastes(0), 65535);
        DUE.is("tear() again", x.tear(), 0);
        DUE.is("seen anew", x.see(1, 1, true), 1);
    }
}
