/**
 * Ruled by the last to laugh: lords in a hall, jokes told by one with a look at another one,
 * and what can be known of it ahead and afterwards. The document's promises say what each call answers.
 *
 * All rows are made in constructors and used again: no call makes an object.
 */
public final class LastLaugh {
    public static final int NONE = -1, UNKNOWN = -1000000001, OUTSIDE = -1000000002, NOT = -1000000003, FULL = -1000000004;

    private static final int MOST_LETTERS = 200, MOST_LORDS = 6, MOST_JOKES = 6, MOST_SEEN = 6, MOST_ENTRIES = 20;
    private static final int MOST_UNDONE = 30, IMAGES = 2, BENCHES = 3, KINDS = 4, TASTE_SETS = 16, SADDEST = 20;
    private static final int TELLINGS_FULL = 9000, NIGHTS_FULL = 900, MOST_NIGHTS = 20, MOST_DRIFT = 40;
    private static final int MOST_BOOKED = 999, LAST_LETTER = 255, LONGEST_ROW = 3, LONGEST_DUEL = 3;

    /** A thing told is written as 10 times the joke and at whom: so many such numbers there are. */
    private static final int PER_JOKE = 10, THINGS = PER_JOKE * MOST_JOKES;

    /** What a duel comes to for who tells next. */
    private static final int WON = 2, NEITHER = 1;

    private static final int CANNOT_STAND = 1, BAD_NUMBER = 2, TOO_MANY = 3, FAULT_BASE = -10, MOST_FIGURES = 3;
    private static final int[] HALL_LEAST = {0, 0}, HALL_MOST = {5, 3};
    private static final int[] LORD_LEAST = {0, 1, 0}, LORD_MOST = {2, 20, 15};
    private static final int[] JOKE_LEAST = {0, 1}, JOKE_MOST = {3, 30};

    private final Reader reader = new Reader();
    private Hall hallNow = new Hall();
    /** A text is read into this one, so that a fault leaves the hall as it was. */
    private Hall hallRead = new Hall();
    private final Moment now = new Moment();
    private final Past past = new Past();
    private final Image[] images = {new Image(), new Image()};
    private final Witness witness = new Witness();
    private final Trial trial = new Trial();
    private int seedNow = 0;
    private int faultAt = NONE;

    public LastLaugh() {
    }

    // ---- the hall

    public int feed(int letter) {
        if (letter < 0 || letter > LAST_LETTER) return OUTSIDE;
        if (reader.length >= MOST_LETTERS) return FULL;
        reader.add(letter);
        return reader.length;
    }

    public int hall() {
        reader.readInto(hallRead);
        reader.length = 0;
        faultAt = reader.faultAt;
        if (reader.fault != 0) return FAULT_BASE - reader.fault;
        Hall old = hallNow;
        hallNow = hallRead;
        hallRead = old;
        now.begin(hallNow.everyone());
        witness.forget();
        past.forget();
        for (int i = 0; i < IMAGES; i++) images[i].kept = false;
        return hallNow.lords;
    }

    public int fault() {
        return faultAt;
    }

    public int told(int what) {
        switch (what) {
            case 0: return hallNow.there ? 1 : 0;
            case 1: return hallNow.understood;
            case 2: return hallNow.hunger;
            case 3: return hallNow.lords;
            case 4: return hallNow.jokes;
            case 5: return reader.length;
            case 6: return now.nights;
            case 7: return now.tellings;
            case 8: return now.in;
            case 9: return king();
            case 10: return now.latestOut;
            case 11: return witness.seen;
            case 12: return witness.entries;
            case 13: return past.kept;
            default: return OUTSIDE;
        }
    }

    public int lord(int l, int what) {
        if (!hallNow.hasLord(l)) return UNKNOWN;
        switch (what) {
            case 0: return hallNow.bench[l];
            case 1: return hallNow.sad[l];
            case 2: return hallNow.taste[l];
            case 3: return hallNow.holdOf(l, now.nights);
            case 4: return now.outBy[l];
            default: return OUTSIDE;
        }
    }

    public int joke(int j, int what) {
        if (!hallNow.hasJoke(j)) return UNKNOWN;
        switch (what) {
            case 0: return hallNow.kind[j];
            case 1: return hallNow.fun[j];
            case 2: return hallNow.wornFun(j, now.timesTold[j]);
            case 3: return now.timesTold[j];
            default: return OUTSIDE;
        }
    }

    // ---- tellings

    public int tell(int l, int j, int at) {
        if (!isThing(l, j, at)) return UNKNOWN;
        if (!now.isIn(l) || !now.isIn(at)) return NOT;
        if (now.tellings > TELLINGS_FULL) return FULL;
        tellNow(l, j, at);
        return now.latestOut;
    }

    public int night(int n) {
        if (n < 1 || n > MOST_NIGHTS) return OUTSIDE;
        if (!hallNow.there) return NOT;
        if (now.nights > NIGHTS_FULL) return FULL;
        for (int i = 0; i < n; i++) passNight();
        return now.nights;
    }

    public int drift(int n) {
        if (n < 1 || n > MOST_DRIFT) return OUTSIDE;
        if (!hallNow.there) return NOT;
        if (now.tellings > TELLINGS_FULL) return FULL;
        for (int i = 0; i < n && Integer.bitCount(now.in) > 1 && hallNow.jokes > 0; i++) tellByDraws();
        return now.in;
    }

    public int undo(int n) {
        if (n < 1 || n > MOST_UNDONE) return OUTSIDE;
        if (n > past.kept) return NOT;
        past.takeBack(now, n);
        return now.tellings;
    }

    // ---- tried

    public int falls(int l, int j, int at) {
        if (!isThing(l, j, at)) return UNKNOWN;
        if (!now.isIn(l) || !now.isIn(at)) return NOT;
        trial.startFrom(hallNow, now);
        return trial.outBy(now.in, l, j, at);
    }

    public int alone(int l, int i) {
        if (!hallNow.hasLord(l)) return UNKNOWN;
        if (!now.isIn(l)) return NOT;
        trial.startFrom(hallNow, now);
        int many = trial.shortestRow(now.in, l);
        if (i == NONE) return many;
        return i >= 0 && i < many ? trial.thingAt(i) : NONE;
    }

    public int duel(int a, int b, int n, int what) {
        if (!hallNow.hasLord(a) || !hallNow.hasLord(b) || a == b) return UNKNOWN;
        if (n < 1 || n > LONGEST_DUEL || what < 0 || what > 1) return OUTSIDE;
        if (!now.isIn(a) || !now.isIn(b)) return NOT;
        trial.startFrom(hallNow, now);
        int outcome = trial.outcomeOfDuel(now.in, a, b, n);
        if (what == 0) return outcome;
        return hallNow.jokes == 0 ? NONE : trial.thingAt(0);
    }

    public int safe() {
        trial.startFrom(hallNow, now);
        int reached = 0;
        for (int l = 0; l < hallNow.lords; l++) {
            if (!now.isIn(l)) continue;
            trial.tryAll(now.in, l);
            for (int j = 0; j < hallNow.jokes; j++) reached |= trial.reachOf(j);
        }
        return now.in & ~reached;
    }

    public int draws(int l) {
        if (!hallNow.hasLord(l)) return UNKNOWN;
        if (!now.isIn(l)) return NOT;
        trial.startFrom(hallNow, now);
        return trial.caught(1 << l, now.in);
    }

    public int cover(int l) {
        if (!hallNow.hasLord(l)) return UNKNOWN;
        if (!now.isIn(l)) return NOT;
        trial.startFrom(hallNow, now);
        trial.tryAll(now.in, l);
        return trial.fewestJokesFor(now.in & ~(1 << l));
    }

    public int toldBy(int l, int set, int i) {
        if (!hallNow.hasLord(l) || !hallNow.hasAll(set)) return UNKNOWN;
        if (!now.isIn(l)) return NOT;
        trial.startFrom(hallNow, now);
        trial.tryAll(now.in, l);
        return i == NONE ? trial.howManyFit(set) : trial.fittingThing(set, i);
    }

    public int sure(int l, int set) {
        if (!hallNow.hasLord(l) || !hallNow.hasAll(set)) return UNKNOWN;
        if (!now.isIn(l)) return NOT;
        trial.startFrom(hallNow, now);
        trial.tryAll(now.in, l);
        return trial.fittingJokes(set);
    }

    public int wired(int set) {
        if (!hallNow.hasAll(set)) return UNKNOWN;
        trial.startFrom(hallNow, now);
        int tellers = 0;
        for (int l = 0; l < hallNow.lords; l++) {
            if (!now.isIn(l)) continue;
            trial.tryAll(now.in, l);
            if (trial.howManyFit(set) > 0) tellers |= 1 << l;
        }
        return tellers;
    }

    // ---- what was seen

    public int see(int l, int j, boolean falls) {
        if (!hallNow.hasLord(l) || !hallNow.hasJoke(j)) return UNKNOWN;
        if (witness.seen >= MOST_SEEN) return FULL;
        witness.addSeen(l, j, falls);
        return witness.seen;
    }

    public int tastes(int l) {
        if (!hallNow.hasLord(l)) return UNKNOWN;
        int fitting = 0;
        for (int t = 0; t < TASTE_SETS; t++) {
            if (witness.fits(hallNow, l, t, hallNow.sad[l])) fitting |= 1 << t;
        }
        return fitting;
    }

    public int sads(int l, int what) {
        if (!hallNow.hasLord(l)) return UNKNOWN;
        if (what < 0 || what > 1) return OUTSIDE;
        int least = NONE;
        int greatest = NONE;
        for (int s = 1; s <= SADDEST; s++) {
            if (!witness.fits(hallNow, l, hallNow.taste[l], s)) continue;
            if (least == NONE) least = s;
            greatest = s;
        }
        return what == 0 ? least : greatest;
    }

    public int write(int tellings, int set) {
        if (!hallNow.hasAll(set)) return UNKNOWN;
        if (tellings < 0 || tellings > MOST_BOOKED) return OUTSIDE;
        if (witness.entries >= MOST_ENTRIES) return FULL;
        witness.addEntry(tellings, set);
        return witness.entries;
    }

    public int judge() {
        return witness.firstWrong(now.tellings, now.in);
    }

    public int tear() {
        int had = witness.seen + witness.entries;
        witness.forget();
        return had;
    }

    // ---- images

    public int seed(int v) {
        if (v < 0) return OUTSIDE;
        int was = seedNow;
        seedNow = v;
        return was;
    }

    public int keep(int i) {
        if (!isImage(i)) return UNKNOWN;
        images[i].take(now, seedNow);
        past.forget();
        return 1;
    }

    public int goBack(int i) {
        if (!isImage(i)) return UNKNOWN;
        if (!images[i].kept) return NOT;
        now.copyFrom(images[i].row, 0);
        seedNow = images[i].seedThen;
        past.forget();
        return 1;
    }

    // ---- helpers

    private static boolean isImage(int i) {
        return i >= 0 && i < IMAGES;
    }

    private boolean isThing(int l, int j, int at) {
        return hallNow.hasLord(l) && hallNow.hasJoke(j) && hallNow.hasLord(at) && l != at;
    }

    private int king() {
        return Integer.bitCount(now.in) == 1 ? Integer.numberOfTrailingZeros(now.in) : NONE;
    }

    private void tellNow(int l, int j, int at) {
        trial.startFrom(hallNow, now);
        int out = trial.outBy(now.in, l, j, at);
        past.push(now);
        now.letLaugh(j, out);
    }

    private void passNight() {
        past.push(now);
        now.letNightPass();
    }

    /** One time by draws; the caller sees to it that two are in the hall and that there are jokes. */
    private void tellByDraws() {
        int l = drawOf(now.in);
        int j = draw(hallNow.jokes);
        int at = drawOf(now.in & ~(1 << l));
        tellNow(l, j, at);
        if (draw(6) == 0) passNight();
    }

    private int drawOf(int set) {
        return memberAt(set, draw(Integer.bitCount(set)));
    }

    private int draw(int n) {
        seedNow = (int) ((seedNow * 1103515245L + 12345L) & 0x7fffffffL);
        return n < 1 ? 0 : seedNow / 65536 % n;
    }

    /** The i-th of a set of lords, rising; 0 if it has not so many. */
    private static int memberAt(int set, int i) {
        int before = 0;
        for (int k = 0; k < MOST_LORDS; k++) {
            if ((set >> k & 1) == 0) continue;
            if (before == i) return k;
            before++;
        }
        return 0;
    }

    /** The hall as its text tells it. */
    private static final class Hall {
        boolean there;
        int understood, hunger, lords, jokes;
        final int[] bench = new int[MOST_LORDS], sad = new int[MOST_LORDS], taste = new int[MOST_LORDS];
        final int[] kind = new int[MOST_JOKES], fun = new int[MOST_JOKES];
        /** Sets of lords, by bench and by the kind that they have a taste for. */
        final int[] onBench = new int[BENCHES], fondOf = new int[KINDS];

        void empty() {
            there = false;
            understood = 0;
            hunger = 0;
            lords = 0;
            jokes = 0;
            for (int b = 0; b < BENCHES; b++) onBench[b] = 0;
            for (int k = 0; k < KINDS; k++) fondOf[k] = 0;
        }

        void open(int u, int n) {
            there = true;
            understood = u;
            hunger = n;
        }

        void addLord(int b, int s, int t) {
            if (lords >= MOST_LORDS || b < 0 || b >= BENCHES) return;
            bench[lords] = b;
            sad[lords] = s;
            taste[lords] = t;
            onBench[b] |= 1 << lords;
            for (int k = 0; k < KINDS; k++) {
                if ((t >> k & 1) != 0) fondOf[k] |= 1 << lords;
            }
            lords++;
        }

        void addJoke(int k, int f) {
            if (jokes >= MOST_JOKES || k < 0 || k >= KINDS) return;
            kind[jokes] = k;
            fun[jokes] = f;
            jokes++;
        }

        boolean hasLord(int l) {
            return l >= 0 && l < lords;
        }

        boolean hasJoke(int j) {
            return j >= 0 && j < jokes;
        }

        boolean hasAll(int set) {
            return (set & ~everyone()) == 0;
        }

        int everyone() {
            return (1 << lords) - 1;
        }

        int holdOf(int l, int nights) {
            return Math.max(1, sad[l] - hunger * nights);
        }

        int wornFun(int j, int times) {
            // Java shifts by the count's low five bits alone, so a joke told 32 times would be fresh again.
            return times >= 31 ? 0 : fun[j] >> times;
        }
    }

    /** The text, and how it is read: the first fault, and where it is. */
    private static final class Reader {
        private final int[] letters = new int[MOST_LETTERS];
        private final int[] numbers = new int[3];
        int length, fault, faultAt;
        private int next;

        void add(int letter) {
            if (length >= MOST_LETTERS) return;
            letters[length] = letter;
            length++;
        }

        void readInto(Hall hall) {
            hall.empty();
            fault = 0;
            faultAt = NONE;
            next = 0;
            skipBlanks();
            for (int clauses = 0; clauses < MOST_LETTERS && fault == 0 && next < length; clauses++) {
                readClause(hall);
                skipBlanks();
            }
        }

        private void readClause(Hall hall) {
            int word = letters[next];
            int wrong = faultOfWord(hall, word);
            if (wrong != 0) {
                noteFault(wrong, next);
                return;
            }
            next++;
            switch (word) {
                case 'h':
                    if (readNumbers(HALL_LEAST, HALL_MOST)) hall.open(numbers[0], numbers[1]);
                    break;
                case 'l':
                    if (readNumbers(LORD_LEAST, LORD_MOST)) hall.addLord(numbers[0], numbers[1], numbers[2]);
                    break;
                case 'j':
                    if (readNumbers(JOKE_LEAST, JOKE_MOST)) hall.addJoke(numbers[0], numbers[1]);
                    break;
                default:
                    break;
            }
        }

        private int faultOfWord(Hall hall, int word) {
            if (word != 'h' && word != 'l' && word != 'j') return CANNOT_STAND;
            if (!hall.there) return word == 'h' ? 0 : CANNOT_STAND;
            if (word == 'h') return TOO_MANY;
            if (word == 'l') return hall.lords >= MOST_LORDS ? TOO_MANY : 0;
            return hall.jokes >= MOST_JOKES ? TOO_MANY : 0;
        }

        /** Reads a clause behind its word, up to its ';': whether all of it can stand. */
        private boolean readNumbers(int[] least, int[] most) {
            for (int i = 0; i < least.length && fault == 0; i++) numbers[i] = readNumber(least[i], most[i]);
            skipBlanks();
            if (next >= length || letters[next] != ';') noteFault(CANNOT_STAND, next);
            next++;
            return fault == 0;
        }

        private int readNumber(int least, int most) {
            skipBlanks();
            int first = next;
            int value = 0;
            while (next < length && isFigure(letters[next])) {
                // A fourth figure is a fault already; the rest is passed over, so that no number overflows.
                if (next - first < MOST_FIGURES) value = value * 10 + letters[next] - '0';
                next++;
            }
            int figures = next - first;
            if (figures == 0) noteFault(CANNOT_STAND, first);
            else if (figures > MOST_FIGURES || value < least || value > most) noteFault(BAD_NUMBER, first);
            return value;
        }

        private static boolean isFigure(int letter) {
            return letter >= '0' && letter <= '9';
        }

        private void skipBlanks() {
            while (next < length && letters[next] == ' ') next++;
        }

        /** Only the first fault counts: reading goes on from left to right. */
        private void noteFault(int number, int where) {
            if (fault != 0) return;
            fault = number;
            faultAt = where;
        }
    }

    /** All of what happens in the hall, but for the seed. It can be laid down in a row and taken up again. */
    private static final class Moment {
        static final int ROW = 4 + MOST_LORDS + MOST_JOKES;

        int in, nights, tellings, latestOut;
        final int[] outBy = new int[MOST_LORDS], timesTold = new int[MOST_JOKES];

        void begin(int everyone) {
            in = everyone;
            nights = 0;
            tellings = 0;
            latestOut = 0;
            for (int k = 0; k < MOST_LORDS; k++) outBy[k] = NONE;
            for (int j = 0; j < MOST_JOKES; j++) timesTold[j] = 0;
        }

        boolean isIn(int l) {
            return (in >> l & 1) != 0;
        }

        void letLaugh(int j, int out) {
            tellings++;
            timesTold[j]++;
            latestOut = out;
            in &= ~out;
            for (int k = 0; k < MOST_LORDS; k++) {
                if ((out >> k & 1) != 0) outBy[k] = tellings;
            }
        }

        void letNightPass() {
            nights++;
            for (int j = 0; j < MOST_JOKES; j++) {
                if (timesTold[j] > 0) timesTold[j]--;
            }
        }

        void copyTo(int[] rows, int from) {
            if (from < 0 || from + ROW > rows.length) return;
            rows[from] = in;
            rows[from + 1] = nights;
            rows[from + 2] = tellings;
            rows[from + 3] = latestOut;
            System.arraycopy(outBy, 0, rows, from + 4, MOST_LORDS);
            System.arraycopy(timesTold, 0, rows, from + 4 + MOST_LORDS, MOST_JOKES);
        }

        void copyFrom(int[] rows, int from) {
            if (from < 0 || from + ROW > rows.length) return;
            in = rows[from];
            nights = rows[from + 1];
            tellings = rows[from + 2];
            latestOut = rows[from + 3];
            System.arraycopy(rows, from + 4, outBy, 0, MOST_LORDS);
            System.arraycopy(rows, from + 4 + MOST_LORDS, timesTold, 0, MOST_JOKES);
        }
    }

    /** The moments ahead of the latest tellings and nights, in a ring. */
    private static final class Past {
        private final int[] rows = new int[MOST_UNDONE * Moment.ROW];
        int kept;
        private int next;

        void forget() {
            kept = 0;
            next = 0;
        }

        void push(Moment moment) {
            moment.copyTo(rows, next * Moment.ROW);
            next = (next + 1) % MOST_UNDONE;
            if (kept < MOST_UNDONE) kept++;
        }

        void takeBack(Moment moment, int n) {
            if (n < 1 || n > kept) return;
            next = (next + MOST_UNDONE - n) % MOST_UNDONE;
            kept -= n;
            moment.copyFrom(rows, next * Moment.ROW);
        }
    }

    private static final class Image {
        final int[] row = new int[Moment.ROW];
        int seedThen;
        boolean kept;

        void take(Moment moment, int seed) {
            moment.copyTo(row, 0);
            seedThen = seed;
            kept = true;
        }
    }

    /** What was seen, and the book. */
    private static final class Witness {
        private final int[] seenLord = new int[MOST_SEEN], seenJoke = new int[MOST_SEEN];
        private final boolean[] seenFall = new boolean[MOST_SEEN];
        private final int[] bookTellings = new int[MOST_ENTRIES], bookSet = new int[MOST_ENTRIES];
        int seen, entries;

        void forget() {
            seen = 0;
            entries = 0;
        }

        void addSeen(int l, int j, boolean fell) {
            if (seen >= MOST_SEEN) return;
            seenLord[seen] = l;
            seenJoke[seen] = j;
            seenFall[seen] = fell;
            seen++;
        }

        void addEntry(int tellings, int set) {
            if (entries >= MOST_ENTRIES) return;
            bookTellings[entries] = tellings;
            bookSet[entries] = set;
            entries++;
        }

        /** Whether all that was seen of a lord is so, had he these tastes and were he so sad. */
        boolean fits(Hall hall, int l, int tastes, int sad) {
            for (int i = 0; i < seen; i++) {
                if (seenLord[i] != l) continue;
                int j = seenJoke[i];
                boolean likes = (tastes >> hall.kind[j] & 1) != 0;
                int amused = likes ? hall.fun[j] : hall.fun[j] / 2;
                if ((amused >= sad) != seenFall[i]) return false;
            }
            return true;
        }

        int firstWrong(int tellings, int in) {
            for (int i = 0; i < entries; i++) {
                if (bookTellings[i] == tellings && bookSet[i] != in) return i;
            }
            return NONE;
        }
    }

    /** What would come of tellings from a moment on; it works on copies, so that nothing changes by it. */
    private static final class Trial {
        private Hall hall = new Hall();
        private final int[] hold = new int[MOST_LORDS], timesTold = new int[MOST_JOKES];
        /** Who falls at each thing that the lord of tryAll can tell; NONE where he can not. */
        private final int[] outByThing = new int[THINGS];
        /** The thing tried now at each depth of a search. */
        private final int[] things = new int[LONGEST_ROW];

        void startFrom(Hall from, Moment moment) {
            hall = from;
            for (int k = 0; k < hall.lords; k++) hold[k] = hall.holdOf(k, moment.nights);
            for (int j = 0; j < hall.jokes; j++) timesTold[j] = moment.timesTold[j];
        }

        int thingAt(int i) {
            return i >= 0 && i < LONGEST_ROW ? things[i] : NONE;
        }

        /** Who is out if l tells joke j and looks at one, these being in the hall. */
        int outBy(int in, int l, int j, int at) {
            int others = in & ~(1 << l);
            int understanding = others & hall.fondOf[hall.kind[j]];
            if (Integer.bitCount(understanding) < hall.understood) return 0;
            return caught(amused(others, j, at), others);
        }

        private int amused(int others, int j, int at) {
            int fun = hall.wornFun(j, timesTold[j]);
            int fond = hall.fondOf[hall.kind[j]];
            int laughing = 0;
            for (int k = 0; k < hall.lords; k++) {
                if ((others >> k & 1) == 0) continue;
                int by = (fond >> k & 1) != 0 ? fun : fun / 2;
                if (k != at) by = by / 2;
                if (by >= hold[k]) laughing |= 1 << k;
            }
            return laughing;
        }

        /** Those that laugh and those of the others who catch it from them. */
        int caught(int laughing, int others) {
            int all = laughing;
            for (int b = 0; b < BENCHES; b++) {
                if ((laughing & hall.onBench[b]) != 0) all |= caughtOn(hall.onBench[b], laughing, others);
            }
            return all;
        }

        private int caughtOn(int bench, int laughing, int others) {
            int all = laughing & bench;
            // Each round but the last one adds a lord.
            for (int round = 0; round < MOST_LORDS; round++) {
                int loud = 3 * Integer.bitCount(all);
                int more = 0;
                int quiet = bench & others & ~all;
                for (int k = 0; k < hall.lords; k++) {
                    if ((quiet >> k & 1) != 0 && loud >= hold[k]) more |= 1 << k;
                }
                if (more == 0) break;
                all |= more;
            }
            return all;
        }

        /** In how few tellings l is alone; the things are those of the first such row. */
        int shortestRow(int in, int l) {
            for (int many = 0; many <= LONGEST_ROW; many++) {
                if (isAloneAfter(in, l, 0, many)) return many;
            }
            return NONE;
        }

        private boolean isAloneAfter(int in, int l, int depth, int many) {
            if (depth >= many || depth >= LONGEST_ROW) return in == 1 << l;
            for (int j = 0; j < hall.jokes; j++) {
                // Nobody out counts as tried: told once more the joke is weaker for each one than it was then,
                // and no better understood, so a row without such a telling is as good, and shorter.
                long triedOut = 1;
                for (int at = 0; at < hall.lords; at++) {
                    if (at == l || (in >> at & 1) == 0) continue;
                    int out = outBy(in, l, j, at);
                    // The same joke with the same ones out leads to the same hall: the first look is enough.
                    if ((triedOut >> out & 1) != 0) continue;
                    triedOut |= 1L << out;
                    things[depth] = PER_JOKE * j + at;
                    timesTold[j]++;
                    boolean found = isAloneAfter(in & ~out, l, depth + 1, many);
                    timesTold[j]--;
                    if (found) return true;
                }
            }
            return false;
        }

        /** What the duel comes to for a, who tells first; the first thing is the first by which it is so. */
        int outcomeOfDuel(int in, int a, int b, int many) {
            return bestInDuel(in, a, b, 0, many);
        }

        /** As the one sees it whose turn it is: what is won by the rival is lost by him. */
        private int bestInDuel(int in, int l, int rival, int depth, int many) {
            if (depth >= many || depth >= LONGEST_DUEL || hall.jokes == 0) return NEITHER;
            int best = NONE;
            int bestThing = NONE;
            for (int j = 0; j < hall.jokes && best < WON; j++) {
                long triedOut = 0;
                for (int at = 0; at < hall.lords && best < WON; at++) {
                    if (at == l || (in >> at & 1) == 0) continue;
                    int out = outBy(in, l, j, at);
                    if ((triedOut >> out & 1) != 0) continue;
                    triedOut |= 1L << out;
                    int worth = WON;
                    if ((out >> rival & 1) == 0) {
                        timesTold[j]++;
                        worth = WON - bestInDuel(in & ~out, rival, l, depth + 1, many);
                        timesTold[j]--;
                    }
                    if (worth > best) {
                        best = worth;
                        bestThing = PER_JOKE * j + at;
                    }
                }
            }
            things[depth] = bestThing;
            return best;
        }

        /** Tries each joke with each look, told by l. */
        void tryAll(int in, int l) {
            for (int thing = 0; thing < THINGS; thing++) {
                int j = thing / PER_JOKE;
                int at = thing % PER_JOKE;
                boolean can = j < hall.jokes && at != l && (in >> at & 1) != 0;
                outByThing[thing] = can ? outBy(in, l, j, at) : NONE;
            }
        }

        /** Who falls at a joke at some look. */
        int reachOf(int j) {
            int reached = 0;
            for (int at = 0; at < MOST_LORDS; at++) {
                int out = outByThing[PER_JOKE * j + at];
                if (out != NONE) reached |= out;
            }
            return reached;
        }

        int fewestJokesFor(int others) {
            int best = NONE;
            int fewest = MOST_JOKES + 1;
            for (int set = 0; set < 1 << hall.jokes; set++) {
                int many = Integer.bitCount(set);
                if (many < fewest && (others & ~reachOfAll(set)) == 0) {
                    fewest = many;
                    best = set;
                }
            }
            return best;
        }

        private int reachOfAll(int jokes) {
            int reached = 0;
            for (int j = 0; j < hall.jokes; j++) {
                if ((jokes >> j & 1) != 0) reached |= reachOf(j);
            }
            return reached;
        }

        int howManyFit(int set) {
            int many = 0;
            for (int thing = 0; thing < THINGS; thing++) {
                if (outByThing[thing] == set) many++;
            }
            return many;
        }

        int fittingThing(int set, int i) {
            int before = 0;
            for (int thing = 0; thing < THINGS; thing++) {
                if (outByThing[thing] != set) continue;
                if (before == i) return thing;
                before++;
            }
            return NONE;
        }

        int fittingJokes(int set) {
            int jokes = 0;
            for (int thing = 0; thing < THINGS; thing++) {
                if (outByThing[thing] == set) jokes |= 1 << thing / PER_JOKE;
            }
            return jokes;
        }
    }
}
