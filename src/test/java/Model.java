import java.util.ArrayDeque;
import java.util.ArrayList;
import java.util.List;
import java.util.TreeSet;

/**
 * The document said once more, as slowly and plainly as can be: sets are TreeSets, moments are whole copies,
 * searches go through everything. LastLaugh is held against it over many runs of calls (ModelTest).
 */
final class Model {
    static final int NONE = -1, UNKNOWN = -1000000001, OUTSIDE = -1000000002, NOT = -1000000003, FULL = -1000000004;

    record Lord(int bench, int sad, int tastes) { }

    record Joke(int kind, int fun) { }

    record Seen(int lord, int joke, boolean falls) { }

    record Entry(int tellings, int set) { }

    record Thing(int joke, int at) {
        int code() { return 10 * joke + at; }
    }

    static final class State {
        TreeSet<Integer> in = new TreeSet<>();
        List<Integer> outBy = new ArrayList<>();
        List<Integer> times = new ArrayList<>();
        int nights = 0, tellings = 0, latest = 0;

        State copy() {
            State s = new State();
            s.in.addAll(in);
            s.outBy.addAll(outBy);
            s.times.addAll(times);
            s.nights = nights;
            s.tellings = tellings;
            s.latest = latest;
            return s;
        }
    }

    StringBuilder text = new StringBuilder();
    boolean there = false;
    int u = 0, n = 0, faultAt = NONE;
    List<Lord> lords = new ArrayList<>();
    List<Joke> jokes = new ArrayList<>();
    State now = new State();
    ArrayDeque<State> past = new ArrayDeque<>();
    State[] images = new State[2];
    long[] imageSeeds = new long[2];
    List<Seen> seen = new ArrayList<>();
    List<Entry> book = new ArrayList<>();
    long seed = 0;

    // ---- the hall

    int feed(int letter) {
        if (letter < 0 || letter > 255) return OUTSIDE;
        if (text.length() == 200) return FULL;
        text.append((char) letter);
        return text.length();
    }

    /** The words and numbers of a text; a number keeps its figures. */
    record Token(int where, String said) {
        boolean isNumber() { return Character.isDigit(said.charAt(0)); }
    }

    static List<Token> tokens(String t) {
        List<Token> all = new ArrayList<>();
        int p = 0;
        while (p < t.length()) {
            int q = p + 1;
            if (t.charAt(p) >= '0' && t.charAt(p) <= '9') {
                while (q < t.length() && t.charAt(q) >= '0' && t.charAt(q) <= '9') q++;
            }
            if (t.charAt(p) != ' ') all.add(new Token(p, t.substring(p, q)));
            p = q;
        }
        return all;
    }

    static int[][] boundsOf(String word) {
        switch (word) {
            case "h": return new int[][] {{0, 5}, {0, 3}};
            case "l": return new int[][] {{0, 2}, {1, 20}, {0, 15}};
            case "j": return new int[][] {{0, 3}, {1, 30}};
            default: return null;
        }
    }

    int hall() {
        String t = text.toString();
        text.setLength(0);
        List<Token> all = tokens(t);
        List<int[]> clauses = new ArrayList<>();
        int[] many = new int[128];
        int i = 0;
        while (i < all.size()) {
            Token word = all.get(i);
            int[][] bounds = boundsOf(word.said);
            if (bounds == null) return faulty(1, word.where);
            char w = word.said.charAt(0);
            if (i == 0 && w != 'h') return faulty(1, word.where);
            many[w]++;
            if (many[w] > (w == 'h' ? 1 : 6)) return faulty(3, word.where);
            int[] clause = new int[1 + bounds.length];
            clause[0] = w;
            i++;
            for (int b = 0; b < bounds.length; b++, i++) {
                if (i >= all.size()) return faulty(1, t.length());
                Token number = all.get(i);
                if (!number.isNumber()) return faulty(1, number.where);
                if (number.said.length() > 3) return faulty(2, number.where);
                clause[1 + b] = Integer.parseInt(number.said);
                if (clause[1 + b] < bounds[b][0] || clause[1 + b] > bounds[b][1]) return faulty(2, number.where);
            }
            if (i >= all.size()) return faulty(1, t.length());
            if (!all.get(i).said.equals(";")) return faulty(1, all.get(i).where);
            i++;
            clauses.add(clause);
        }
        faultAt = NONE;
        build(clauses);
        return lords.size();
    }

    private int faulty(int number, int where) {
        faultAt = where;
        return -10 - number;
    }

    private void build(List<int[]> clauses) {
        there = !clauses.isEmpty();
        u = 0;
        n = 0;
        lords.clear();
        jokes.clear();
        now = new State();
        past.clear();
        images = new State[2];
        seen.clear();
        book.clear();
        for (int[] c : clauses) {
            if (c[0] == 'h') {
                u = c[1];
                n = c[2];
            } else if (c[0] == 'l') {
                now.in.add(lords.size());
                now.outBy.add(NONE);
                lords.add(new Lord(c[1], c[2], c[3]));
            } else {
                now.times.add(0);
                jokes.add(new Joke(c[1], c[2]));
            }
        }
    }

    int fault() { return faultAt; }

    static int set(Iterable<Integer> members) {
        int bits = 0;
        for (int k : members) bits |= 1 << k;
        return bits;
    }

    int told(int what) {
        switch (what) {
            case 0: return there ? 1 : 0;
            case 1: return u;
            case 2: return n;
            case 3: return lords.size();
            case 4: return jokes.size();
            case 5: return text.length();
            case 6: return now.nights;
            case 7: return now.tellings;
            case 8: return set(now.in);
            case 9: return now.in.size() == 1 ? now.in.first() : NONE;
            case 10: return now.latest;
            case 11: return seen.size();
            case 12: return book.size();
            case 13: return past.size();
            default: return OUTSIDE;
        }
    }

    boolean noLord(int l) { return l < 0 || l >= lords.size(); }

    boolean noJoke(int j) { return j < 0 || j >= jokes.size(); }

    boolean strangeBits(int bits) {
        for (int k = lords.size(); k < 32; k++) if ((bits >>> k & 1) != 0) return true;
        return false;
    }

    int hold(State s, int l) {
        int h = lords.get(l).sad;
        for (int i = 0; i < s.nights && h > 1; i++) h = Math.max(1, h - n);
        return h;
    }

    int fun(State s, int j) {
        int f = jokes.get(j).fun;
        for (int i = 0; i < s.times.get(j); i++) f = f / 2;
        return f;
    }

    int lord(int l, int what) {
        if (noLord(l)) return UNKNOWN;
        if (what < 0 || what > 4) return OUTSIDE;
        Lord one = lords.get(l);
        return new int[] {one.bench, one.sad, one.tastes, hold(now, l), now.outBy.get(l)}[what];
    }

    int joke(int j, int what) {
        if (noJoke(j)) return UNKNOWN;
        if (what < 0 || what > 3) return OUTSIDE;
        Joke one = jokes.get(j);
        return new int[] {one.kind, one.fun, fun(now, j), now.times.get(j)}[what];
    }

    // ---- tellings

    boolean hasTaste(int l, int kind) { return (lords.get(l).tastes >> kind & 1) == 1; }

    TreeSet<Integer> catching(State s, TreeSet<Integer> first, int teller) {
        TreeSet<Integer> laugh = new TreeSet<>(first);
        boolean more = true;
        while (more) {
            more = false;
            for (int k : s.in) {
                if (k == teller || laugh.contains(k)) continue;
                int with = 0;
                for (int m : laugh) if (lords.get(m).bench == lords.get(k).bench) with++;
                if (3 * with >= hold(s, k)) {
                    laugh.add(k);
                    more = true;
                }
            }
        }
        return laugh;
    }

    TreeSet<Integer> out(State s, int teller, int j, int at) {
        int kind = jokes.get(j).kind;
        int understand = 0;
        for (int k : s.in) if (k != teller && hasTaste(k, kind)) understand++;
        TreeSet<Integer> laugh = new TreeSet<>();
        if (understand < u) return laugh;
        for (int k : s.in) {
            if (k == teller) continue;
            int amused = fun(s, j);
            if (!hasTaste(k, kind)) amused = amused / 2;
            if (k != at) amused = amused / 2;
            if (amused >= hold(s, k)) laugh.add(k);
        }
        return catching(s, laugh, teller);
    }

    State after(State s, int teller, int j, int at) {
        State next = s.copy();
        TreeSet<Integer> gone = out(s, teller, j, at);
        next.tellings++;
        next.times.set(j, next.times.get(j) + 1);
        next.in.removeAll(gone);
        for (int k : gone) next.outBy.set(k, next.tellings);
        next.latest = set(gone);
        return next;
    }

    State afterNight(State s) {
        State next = s.copy();
        next.nights++;
        for (int j = 0; j < jokes.size(); j++) next.times.set(j, Math.max(0, next.times.get(j) - 1));
        return next;
    }

    void goOn(State next) {
        past.addLast(now);
        if (past.size() > 30) past.removeFirst();
        now = next;
    }

    int tell(int l, int j, int at) {
        int refused = thing(l, j, at);
        if (refused != 0) return refused;
        if (now.tellings > 9000) return FULL;
        goOn(after(now, l, j, at));
        return now.latest;
    }

    private int thing(int l, int j, int at) {
        if (noLord(l) || noJoke(j) || noLord(at) || l == at) return UNKNOWN;
        return now.in.contains(l) && now.in.contains(at) ? 0 : NOT;
    }

    int night(int many) {
        if (many < 1 || many > 20) return OUTSIDE;
        if (!there) return NOT;
        if (now.nights > 900) return FULL;
        for (int i = 0; i < many; i++) goOn(afterNight(now));
        return now.nights;
    }

    int draw(int of) {
        seed = (seed * 1103515245L + 12345L) % 2147483648L;
        return (int) (seed / 65536 % of);
    }

    int drift(int many) {
        if (many < 1 || many > 40) return OUTSIDE;
        if (!there) return NOT;
        if (now.tellings > 9000) return FULL;
        for (int i = 0; i < many; i++) {
            if (now.in.size() < 2 || jokes.isEmpty()) break;
            List<Integer> who = new ArrayList<>(now.in);
            int l = who.remove(draw(who.size()));
            int j = draw(jokes.size());
            int at = who.get(draw(who.size()));
            goOn(after(now, l, j, at));
            if (draw(6) == 0) goOn(afterNight(now));
        }
        return set(now.in);
    }

    int undo(int many) {
        if (many < 1 || many > 30) return OUTSIDE;
        if (past.size() < many) return NOT;
        for (int i = 0; i < many; i++) now = past.removeLast();
        return now.tellings;
    }

    // ---- tried

    List<Thing> things(State s, int l) {
        List<Thing> all = new ArrayList<>();
        for (int j = 0; j < jokes.size(); j++) for (int at : s.in) if (at != l) all.add(new Thing(j, at));
        return all;
    }

    int falls(int l, int j, int at) {
        int refused = thing(l, j, at);
        return refused != 0 ? refused : set(out(now, l, j, at));
    }

    private boolean in(int l) { return now.in.contains(l); }

    private boolean rows(State s, int l, int left, List<Integer> row) {
        boolean isAlone = s.in.size() == 1;
        if (left == 0) return isAlone;
        if (isAlone) return false;
        for (Thing t : things(s, l)) {
            row.add(t.code());
            if (rows(after(s, l, t.joke, t.at), l, left - 1, row)) return true;
            row.remove(row.size() - 1);
        }
        return false;
    }

    int alone(int l, int i) {
        if (noLord(l)) return UNKNOWN;
        if (!in(l)) return NOT;
        for (int many = 0; many <= 3; many++) {
            List<Integer> row = new ArrayList<>();
            if (!rows(now, l, many, row)) continue;
            if (i == NONE) return many;
            return i >= 0 && i < many ? row.get(i) : NONE;
        }
        return NONE;
    }

    private int duelled(State s, int a, int b, int left, boolean firstTells) {
        if (!s.in.contains(b)) return 2;
        if (!s.in.contains(a)) return 0;
        if (left == 0 || jokes.isEmpty()) return 1;
        int teller = firstTells ? a : b;
        int best = firstTells ? -1 : 3;
        for (Thing t : things(s, teller)) {
            int v = duelled(after(s, teller, t.joke, t.at), a, b, left - 1, !firstTells);
            best = firstTells ? Math.max(best, v) : Math.min(best, v);
        }
        return best;
    }

    int duel(int a, int b, int many, int what) {
        if (noLord(a) || noLord(b) || a == b) return UNKNOWN;
        if (many < 1 || many > 3 || what < 0 || what > 1) return OUTSIDE;
        if (!in(a) || !in(b)) return NOT;
        int value = duelled(now, a, b, many, true);
        if (what == 0) return value;
        for (Thing t : things(now, a)) {
            if (duelled(after(now, a, t.joke, t.at), a, b, many - 1, false) == value) return t.code();
        }
        return NONE;
    }

    int safe() {
        TreeSet<Integer> left = new TreeSet<>(now.in);
        for (int l : now.in) for (Thing t : things(now, l)) left.removeAll(out(now, l, t.joke, t.at));
        return set(left);
    }

    int draws(int l) {
        if (noLord(l)) return UNKNOWN;
        if (!in(l)) return NOT;
        TreeSet<Integer> he = new TreeSet<>();
        he.add(l);
        return set(catching(now, he, NONE));
    }

    int cover(int l) {
        if (noLord(l)) return UNKNOWN;
        if (!in(l)) return NOT;
        for (int size = 0; size <= jokes.size(); size++) {
            for (int pick = 0; pick < 1 << jokes.size(); pick++) {
                if (Integer.bitCount(pick) != size) continue;
                TreeSet<Integer> left = new TreeSet<>(now.in);
                left.remove(l);
                for (Thing t : things(now, l)) if ((pick >> t.joke & 1) == 1) left.removeAll(out(now, l, t.joke, t.at));
                if (left.isEmpty()) return pick;
            }
        }
        return NONE;
    }

    private List<Thing> fitting(int l, int bits) {
        List<Thing> all = new ArrayList<>();
        for (Thing t : things(now, l)) if (set(out(now, l, t.joke, t.at)) == bits) all.add(t);
        return all;
    }

    int toldBy(int l, int bits, int i) {
        if (noLord(l) || strangeBits(bits)) return UNKNOWN;
        if (!in(l)) return NOT;
        List<Thing> fit = fitting(l, bits);
        if (i == NONE) return fit.size();
        return i >= 0 && i < fit.size() ? fit.get(i).code() : NONE;
    }

    int sure(int l, int bits) {
        if (noLord(l) || strangeBits(bits)) return UNKNOWN;
        if (!in(l)) return NOT;
        int can = 0;
        for (Thing t : fitting(l, bits)) can |= 1 << t.joke;
        return can;
    }

    int wired(int bits) {
        if (strangeBits(bits)) return UNKNOWN;
        TreeSet<Integer> who = new TreeSet<>();
        for (int l : now.in) if (!fitting(l, bits).isEmpty()) who.add(l);
        return set(who);
    }

    // ---- what was seen

    int see(int l, int j, boolean falls) {
        if (noLord(l) || noJoke(j)) return UNKNOWN;
        if (seen.size() == 6) return FULL;
        seen.add(new Seen(l, j, falls));
        return seen.size();
    }

    private boolean fits(int l, int tastes, int sad) {
        for (Seen s : seen) {
            if (s.lord != l) continue;
            Joke one = jokes.get(s.joke);
            int amused = (tastes >> one.kind & 1) == 1 ? one.fun : one.fun / 2;
            if (s.falls != (amused >= sad)) return false;
        }
        return true;
    }

    int tastes(int l) {
        if (noLord(l)) return UNKNOWN;
        int all = 0;
        for (int t = 0; t < 16; t++) if (fits(l, t, lords.get(l).sad)) all += 1 << t;
        return all;
    }

    int sads(int l, int what) {
        if (noLord(l)) return UNKNOWN;
        if (what < 0 || what > 1) return OUTSIDE;
        TreeSet<Integer> all = new TreeSet<>();
        for (int s = 1; s <= 20; s++) if (fits(l, lords.get(l).tastes, s)) all.add(s);
        if (all.isEmpty()) return NONE;
        return what == 0 ? all.first() : all.last();
    }

    int write(int tellings, int bits) {
        if (strangeBits(bits)) return UNKNOWN;
        if (tellings < 0 || tellings > 999) return OUTSIDE;
        if (book.size() == 20) return FULL;
        book.add(new Entry(tellings, bits));
        return book.size();
    }

    int judge() {
        for (int i = 0; i < book.size(); i++) {
            if (book.get(i).tellings == now.tellings && book.get(i).set != set(now.in)) return i;
        }
        return NONE;
    }

    int tear() {
        int had = seen.size() + book.size();
        seen.clear();
        book.clear();
        return had;
    }

    // ---- images

    int seed(int v) {
        if (v < 0) return OUTSIDE;
        int was = (int) seed;
        seed = v;
        return was;
    }

    int keep(int i) {
        if (i != 0 && i != 1) return UNKNOWN;
        images[i] = now.copy();
        imageSeeds[i] = seed;
        past.clear();
        return 1;
    }

    int goBack(int i) {
        if (i != 0 && i != 1) return UNKNOWN;
        if (images[i] == null) return NOT;
        now = images[i].copy();
        seed = imageSeeds[i];
        past.clear();
        return 1;
    }
}
