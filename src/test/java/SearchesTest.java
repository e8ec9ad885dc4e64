import java.util.Random;

/**
 * Promises 13 to 17: in drawn halls where it matters who is left to understand a joke, what is searched for is held
 * against the Model's search through everything.
 */
public final class SearchesTest {
    private static final int HALLS = 1500, FULL_HALLS = 150;

    private static final Due DUE = new Due();

    public static void main(String[] args) {
        for (int h = 0; h < HALLS && !DUE.anyWrong(); h++) inHall(new Random(h), false);
        for (int h = 0; h < FULL_HALLS && !DUE.anyWrong(); h++) inHall(new Random(-1 - h), true);
        DUE.end("SearchesTest");
    }

    /** Small halls for the most part, as searching through everything is slow; full ones have six of each. */
    private static String text(Random random, boolean full) {
        StringBuilder s = new StringBuilder("h").append(random.nextInt(4)).append(' ').append(random.nextInt(3)).append(';');
        int lords = full ? 6 : 3 + random.nextInt(3);
        int jokes = full ? 6 : 2 + random.nextInt(lords > 4 ? 1 : 2);
        int kinds = full ? 4 : 2;
        int most = 6 + random.nextInt(15);
        for (int l = 0; l < lords; l++) {
            s.append('l').append(random.nextInt(3)).append(' ').append(2 + random.nextInt(most - 1)).append(' ');
            s.append(random.nextInt(16)).append(';');
        }
        for (int j = 0; j < jokes; j++) s.append('j').append(random.nextInt(kinds)).append(' ').append(6 + random.nextInt(25)).append(';');
        return s.toString();
    }

    private static void inHall(Random random, boolean full) {
        String text = text(random, full);
        LastLaugh x = Due.hall(text);
        Model m = new Model();
        for (int i = 0; i < text.length(); i++) m.feed(text.charAt(i));
        m.hall();
        int lords = x.told(3);
        if (random.nextInt(3) == 0) {
            int l = random.nextInt(lords), at = random.nextInt(lords);
            x.tell(l, 0, at);
            m.tell(l, 0, at);
        }
        for (int l = 0; l < lords; l++) {
            for (int i = -1; i <= 3; i++) DUE.is("alone(" + l + ", " + i + ") in " + text, x.alone(l, i), m.alone(l, i));
            DUE.is("cover(" + l + ") in " + text, x.cover(l), m.cover(l));
            DUE.is("draws(" + l + ") in " + text, x.draws(l), m.draws(l));
        }
        DUE.is("safe() in " + text, x.safe(), m.safe());
        int a = random.nextInt(lords), b = random.nextInt(lords);
        for (int n = 1; n <= 3; n++) {
            String call = "duel(" + a + ", " + b + ", " + n + ", ";
            DUE.is(call + "0) in " + text, x.duel(a, b, n, 0), m.duel(a, b, n, 0));
            DUE.is(call + "1) in " + text, x.duel(a, b, n, 1), m.duel(a, b, n, 1));
        }
    }
}
