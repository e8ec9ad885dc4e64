import java.util.function.ToIntFunction;

/** Promises 2, 3, 4: each sentence on the text and its faults that names a boundary has a test of its own. */
public final class TextEdgesTest {
    private static final Due DUE = new Due();
    private static final int MIN = Integer.MIN_VALUE, MAX = Integer.MAX_VALUE;
    private static final String SIX_LORDS = "h0 0;l0 1 0;l0 1 0;l0 1 0;l0 1 0;l0 1 0;l0 1 0;";
    private static final String SIX_JOKES = "j0 1;j0 1;j0 1;j0 1;j0 1;j0 1;";

    public static void main(String[] args) {
        lettersFrom0To255();
        otherLetters();
        howManyItHas();
        fullAt200();
        twoHundredLettersAreRead();
        boundsOfNumbers();
        sixLords();
        sixJokes();
        firstOnce();
        oneToThreeFigures();
        wordsOfOneLetter();
        blanksAnywhere();
        noOtherBlank();
        notWithinNumbers();
        sideBySide();
        firstLetterThatHasOne();
        theEnd();
        theLeast();
        lettersThatAreNoWord();
        anotherWordFirst();
        fourFiguresAtTheFirst();
        outOfBoundsAtTheFirst();
        againAndSeventh();
        emptyText();
        emptyThen();
        howManyLords();
        lessTheNumberOfTheFault();
        faultOfTheLatest();
        faultNone();
        DUE.end("TextEdgesTest");
    }

    private static void text(String text, int answer, int where) {
        LastLaugh x = Due.feed(new LastLaugh(), text);
        DUE.is("hall() of '" + text + "'", x.hall(), answer);
        DUE.is("fault() of '" + text + "'", x.fault(), where);
    }

    private static void stands(String text, int lords) {
        text(text, lords, LastLaugh.NONE);
    }

    // ---- promise 2

    private static void lettersFrom0To255() {
        DUE.sentence(2, "A letter (0 .. 255)");
        DUE.is("feed(0)", new LastLaugh().feed(0), 1);
        DUE.is("feed(255)", new LastLaugh().feed(255), 1);
    }

    private static void otherLetters() {
        DUE.sentence(2, "OUTSIDE");
        LastLaugh x = new LastLaugh();
        for (int letter : new int[] {-1, 256, 'h' + 256, MIN, MAX}) DUE.is("feed(" + letter + ")", x.feed(letter), LastLaugh.OUTSIDE);
        DUE.is("told(5) behind them", x.told(5), 0);
    }

    private static void howManyItHas() {
        DUE.sentence(2, "how many it has");
        LastLaugh x = new LastLaugh();
        for (int i = 1; i <= 200; i++) {
            DUE.is("feed, the " + i + "th", x.feed(i), i);
            DUE.is("told(5)", x.told(5), i);
        }
    }

    private static void fullAt200() {
        DUE.sentence(2, "FULL (200)");
        LastLaugh x = new LastLaugh();
        for (int i = 1; i <= 199; i++) x.feed(' ');
        DUE.is("feed, the 200th", x.feed(' '), 200);
        DUE.is("feed, the 201st", x.feed(' '), LastLaugh.FULL);
        DUE.is("feed, the 202nd", x.feed('h'), LastLaugh.FULL);
        DUE.is("told(5)", x.told(5), 200);
        x.hall();
        DUE.is("feed behind hall()", x.feed(' '), 1);
    }

    // ---- promises 3 and 4: what can stand

    private static void twoHundredLettersAreRead() {
        DUE.sentence(3, "(200 letters at most)");
        stands("h0 0;" + " ".repeat(188) + "l0 1 0;", 1);
        text("h0 0;" + " ".repeat(189) + "l0 1 0", -11, 200);
        text("h0 0;" + " ".repeat(189) + "l0 1 0;", -11, 200);
        text("h0 0;" + " ".repeat(194) + "x", -11, 199);
    }

    /** A number of a clause: what stands ahead of it and behind it, and where the object tells it. */
    private static void bounds(int least, int most, String ahead, String behind, ToIntFunction<LastLaugh> asked) {
        for (int value : new int[] {least, most}) {
            LastLaugh x = Due.feed(new LastLaugh(), ahead + value + behind);
            DUE.holds(ahead + value + behind + " stands", x.hall() >= 0);
            DUE.is("what is told of it", asked.applyAsInt(x), value);
        }
        if (least > 0) text(ahead + (least - 1) + behind, -12, ahead.length());
        text(ahead + (most + 1) + behind, -12, ahead.length());
        text(ahead + 999 + behind, -12, ahead.length());
        text(ahead + "-1" + behind, -11, ahead.length());
    }

    private static void boundsOfNumbers() {
        DUE.sentence(3, "a JOKE must be understood by U, 0 .. 5");
        bounds(0, 5, "h", " 0;", x -> x.told(1));
        DUE.sentence(3, "hunger takes N a NIGHT, 0 .. 3");
        bounds(0, 3, "h0 ", ";", x -> x.told(2));
        DUE.sentence(3, "on BENCH B 0 .. 2");
        bounds(0, 2, "h0 0;l", " 1 0;", x -> x.lord(0, 0));
        DUE.sentence(3, "SAD S 1 .. 20");
        bounds(1, 20, "h0 0;l0 ", " 0;", x -> x.lord(0, 1));
        DUE.sentence(3, "TASTES T, a SET of KINDS 0 .. 3: 0 .. 15");
        bounds(0, 15, "h0 0;l0 1 ", ";", x -> x.lord(0, 2));
        DUE.sentence(3, "of KIND K 0 .. 3");
        bounds(0, 3, "h0 0;j", " 1;", x -> x.joke(0, 0));
        DUE.sentence(3, "FUN F 1 .. 30");
        bounds(1, 30, "h0 0;j0 ", ";", x -> x.joke(0, 1));
    }

    private static void sixLords() {
        DUE.sentence(3, "6 LORDS at most");
        stands(SIX_LORDS, 6);
        stands(SIX_LORDS + SIX_JOKES, 6);
        text(SIX_LORDS + "l0 1 0;", -13, SIX_LORDS.length());
        LastLaugh x = Due.hall(SIX_LORDS);
        DUE.is("lord(5, 1)", x.lord(5, 1), 1);
        DUE.is("lord(6, 1)", x.lord(6, 1), LastLaugh.UNKNOWN);
    }

    private static void sixJokes() {
        DUE.sentence(3, "6 JOKES at most");
        stands("h0 0;" + SIX_JOKES, 0);
        text("h0 0;" + SIX_JOKES + "j0 1;", -13, 35);
        LastLaugh x = Due.hall("h0 0;" + SIX_JOKES);
        DUE.is("joke(5, 1)", x.joke(5, 1), 1);
        DUE.is("joke(6, 1)", x.joke(6, 1), LastLaugh.UNKNOWN);
    }

    private static void firstOnce() {
        DUE.sentence(3, "first, once");
        stands("h0 0;", 0);
        text("l0 1 0;h0 0;", -11, 0);
        text("h0 0;h0 0;", -13, 5);
        text("h0 0;l0 1 0;j0 1;h0 0;", -13, 17);
    }

    private static void oneToThreeFigures() {
        DUE.sentence(3, "NUMBERS have one to three figures");
        stands("h000 003;l002 020 015;j003 030;", 1);
        stands("h00 03;l02 20 15;j03 30;", 1);
        text("h 0;", -11, 3);
        text("h;", -11, 1);
        text("h0 0;l0 1;", -11, 9);
        text("h0 0;j;", -11, 6);
        text("h0000 0;", -12, 1);
    }

    private static void wordsOfOneLetter() {
        DUE.sentence(3, "a word is one letter");
        text("hh0 0;", -11, 1);
        text("h0 0;ll0 1 0;", -11, 6);
        text("h0 0;jj0 1;", -11, 6);
        text("h0 0;lord0 1 0;", -11, 6);
    }

    private static void blanksAnywhere() {
        DUE.sentence(3, "blanks (32) may stand anywhere");
        stands("   h   5   3   ;   l   2   20   15   ;   j   3   30   ;   ", 1);
        stands("h5 3;l2 20 15;j3 30;", 1);
        stands(" h0 0;", 0);
        stands("h0 0; ", 0);
    }

    private static void noOtherBlank() {
        DUE.sentence(3, "blanks (32)");
        for (char letter : new char[] {0, 9, 10, 11, 12, 13, 31, 33, 127, 160, 255}) {
            text("h" + letter + "0 0;", -11, 1);
            text(letter + "h0 0;", -11, 0);
            text("h0 0;" + letter, -11, 5);
        }
    }

    private static void notWithinNumbers() {
        DUE.sentence(3, "anywhere but within NUMBERS");
        text("h0 0;l0 1 2 0;", -11, 12);
        text("h0 0;j0 1 2;", -11, 10);
    }

    private static void sideBySide() {
        DUE.sentence(3, "two NUMBERS side by side need one");
        text("h00;", -11, 3);
        text("h0 0;l0 10;", -11, 10);
        text("h0 0;j012;", -12, 6);
        text("h0,0;", -11, 2);
    }

    // ---- promises 3 and 4: faults

    private static void firstLetterThatHasOne() {
        DUE.sentence(4, "at the first letter that has one");
        text("h9 9;x", -12, 1);
        text("h0 9;h", -12, 3);
        text("h0 0;h;x", -13, 5);
        text("h0 0;x;h9", -11, 5);
        text("h0 0;j0 31;j0 31;", -12, 8);
        text(SIX_LORDS + "l9 99 99;x", -13, SIX_LORDS.length());
        text("h0 0;l0 21 x", -12, 8);
        text("h0 0;l0 x 21", -11, 8);
    }

    private static void theEnd() {
        DUE.sentence(4, "(the end at the text's length)");
        String whole = "h0 0;l0 1 0;j0 1";
        for (int length : new int[] {1, 2, 3, 4, 6, 7, 8, 9, 10, 11, 13, 14, 15, 16}) {
            text(whole.substring(0, length), -11, length);
            text(whole.substring(0, length) + "   ", -11, length + 3);
        }
        stands(whole.substring(0, 5), 0);
        stands(whole.substring(0, 12), 1);
        text("h6", -12, 1);
        text("h0 0;l0 1 16", -12, 10);
    }

    private static void theLeast() {
        DUE.sentence(3, "of these the least");
        // A number too great, 'h' again, a seventh 'l': each also can not stand there, which is the least.
        text("h0 0 9999;", -11, 5);
        text("h0 0;9999", -11, 5);
        text("9999", -11, 0);
        text("h0 h0 0;", -11, 3);
        text("h0 0 h0 0;", -11, 5);
        text(SIX_LORDS + "j0 l", -11, SIX_LORDS.length() + 3);
        text("h0 0;" + SIX_JOKES + "l0 j", -11, 38);
    }

    private static void lettersThatAreNoWord() {
        DUE.sentence(3, "1 it cannot stand there (a letter that is no word");
        for (char letter = 0; letter <= 255; letter++) {
            if (letter == ' ' || letter == 'h' || letter == 'l' || letter == 'j') continue;
            text("h0 0;" + letter, -11, 5);
        }
    }

    private static void anotherWordFirst() {
        DUE.sentence(3, "another word first than 'h')");
        for (char letter = 0; letter <= 255; letter++) {
            if (letter == ' ' || letter == 'h') continue;
            text(letter + "0 1 0;", -11, 0);
        }
        text("  l0 1 0;", -11, 2);
    }

    private static void fourFiguresAtTheFirst() {
        DUE.sentence(3, "2 a NUMBER of four figures or more");
        text("h0001 0;", -12, 1);
        text("h0 0000;", -12, 3);
        text("h0 0;l0 0020 0;", -12, 8);
        text("h0 00000000000000000000000000000000000;", -12, 3);
        // 2 to the 32 and 5: no wrap-around makes it small.
        text("h4294967301 0;", -12, 1);
        text("h0 0;l0 1 18446744073709551617;", -12, 10);
    }

    private static void outOfBoundsAtTheFirst() {
        DUE.sentence(4, "or out of its bounds (at its first)");
        text("h  123 0;", -12, 3);
        text("h0 0;l0   021 0;", -12, 10);
        text("h0 0;l0 0 0;", -12, 8);
        text("h0 0;j0 000;", -12, 8);
    }

    private static void againAndSeventh() {
        DUE.sentence(4, "3 'h' again, a seventh 'l', 'j' (at it)");
        text("h0 0;  h", -13, 7);
        text(SIX_LORDS + " l", -13, SIX_LORDS.length() + 1);
        text(SIX_LORDS + SIX_JOKES + "  j", -13, SIX_LORDS.length() + 32);
        text(SIX_LORDS + SIX_JOKES + "h", -13, SIX_LORDS.length() + 30);
    }

    // ---- promises 3 and 4: what hall() and fault() answer

    private static void emptyText() {
        DUE.sentence(3, "An empty text: no HALL");
        stands("", 0);
        LastLaugh x = Due.hall(SIX_LORDS + SIX_JOKES);
        DUE.is("hall() again", x.hall(), 0);
        for (int what : new int[] {0, 1, 2, 3, 4, 8}) DUE.is("told(" + what + ")", x.told(what), 0);
        DUE.is("night(1)", x.night(1), LastLaugh.NOT);
    }

    private static void emptyThen() {
        DUE.sentence(3, "(it is empty then, with a FAULT, too)");
        for (String text : new String[] {"h0 0;", "x", "h9", "h0 0;h"}) {
            LastLaugh x = Due.feed(new LastLaugh(), text);
            x.hall();
            DUE.is("told(5) behind '" + text + "'", x.told(5), 0);
            DUE.is("feed behind '" + text + "'", x.feed('h'), 1);
            DUE.is("hall() of what was fed since", Due.feed(x, "1 1;").hall(), 0);
            DUE.is("told(1)", x.told(1), 1);
        }
    }

    private static void howManyLords() {
        DUE.sentence(3, "how many LORDS");
        StringBuilder text = new StringBuilder("h0 0;");
        for (int lords = 0; lords <= 6; lords++) {
            stands(text.toString(), lords);
            text.append("j0 1;l0 1 0;");
            if (lords == 5) text.setLength(text.length() - 7);
            if (lords == 5) text.append("l2 20 15;");
        }
    }

    private static void lessTheNumberOfTheFault() {
        DUE.sentence(3, "-10 less the number of its FAULT");
        text("?", -10 - 1, 0);
        text("h6 0;", -10 - 2, 1);
        text("h0 0;h", -10 - 3, 5);
    }

    private static void faultOfTheLatest() {
        DUE.sentence(4, "The letter of the FAULT of the latest hall()");
        LastLaugh x = Due.feed(new LastLaugh(), "?");
        x.hall();
        DUE.is("fault() at the first letter", x.fault(), 0);
        Due.feed(x, "h0 9;").hall();
        DUE.is("fault() of the next", x.fault(), 3);
        Due.feed(x, "h0 0;????");
        DUE.is("fault() ahead of hall()", x.fault(), 3);
        x.hall();
        DUE.is("fault() behind hall()", x.fault(), 5);
        x.told(0);
        DUE.is("fault() again", x.fault(), 5);
    }

    private static void faultNone() {
        DUE.sentence(4, "NONE");
        LastLaugh x = new LastLaugh();
        DUE.is("fault() of a new object", x.fault(), LastLaugh.NONE);
        Due.feed(x, "?").hall();
        Due.feed(x, "h0 0;").hall();
        DUE.is("fault() behind one that stands", x.fault(), LastLaugh.NONE);
        Due.feed(x, "?").hall();
        x.hall();
        DUE.is("fault() behind an empty one", x.fault(), LastLaugh.NONE);
    }
}
