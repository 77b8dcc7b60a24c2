import java.util.ArrayList;
import java.util.Arrays;
import java.util.List;
import java.util.TreeMap;
import java.util.TreeSet;

/**
 * The document once more, told as plainly as can be and with other means than the class has (lists,
 * sets, trials of everything), so that the two can be held against each other.
 */
final class PlainCapital {
    static final int NONE = -1, UNKNOWN = -1000000001, OUTSIDE = -1000000002, NOT = -1000000003, FULL = -1000000004;

    static final class Statue {
        int kind, want, plinth, tired, elected;

        Statue copy() {
            Statue c = new Statue();
            c.kind = kind;
            c.want = want;
            c.plinth = plinth;
            c.tired = tired;
            c.elected = elected;
            return c;
        }
    }

    static final class Walker {
        int votes;
        TreeSet<Integer> under = new TreeSet<>(), likes = new TreeSet<>();

        Walker copy() {
            Walker c = new Walker();
            c.votes = votes;
            c.under = new TreeSet<>(under);
            c.likes = new TreeSet<>(likes);
            return c;
        }
    }

    static final class World {
        int term, years;
        List<Integer> views = new ArrayList<>();
        List<Statue> statues = new ArrayList<>();
        List<Walker> walkers = new ArrayList<>();

        World copy() {
            World c = new World();
            c.term = term;
            c.years = years;
            c.views = views;
            for (Statue s : statues) c.statues.add(s.copy());
            for (Walker w : walkers) c.walkers.add(w.copy());
            return c;
        }
    }

    private final StringBuilder text = new StringBuilder();
    private World now = new World();
    private int faultAt = NONE;
    private long seed = 0;
    private final List<World> past = new ArrayList<>();
    private final List<int[]> counts = new ArrayList<>(), book = new ArrayList<>();
    private final World[] images = new World[2];
    private final long[] imageSeeds = new long[2];

    // ---- the text

    private record Token(char what, int at, String letters) {
    }

    private static final class Fault extends RuntimeException {
        private static final long serialVersionUID = 1;
        final int number, at;

        Fault(int number, int at) {
            this.number = number;
            this.at = at;
        }
    }

    private static List<Token> tokens(String t) {
        List<Token> all = new ArrayList<>();
        int i = 0;
        while (i < t.length()) {
            int j = i + 1;
            if (t.charAt(i) == ' ') {
                i = j;
                continue;
            }
            boolean number = t.charAt(i) >= '0' && t.charAt(i) <= '9';
            while (number && j < t.length() && t.charAt(j) >= '0' && t.charAt(j) <= '9') j++;
            all.add(new Token(number ? 'N' : t.charAt(i) == 'N' ? '?' : t.charAt(i), i, t.substring(i, j)));
            i = j;
        }
        all.add(new Token('$', t.length(), ""));
        return all;
    }

    private static int number(Token k, int least, int most) {
        if (k.what != 'N' || k.letters.isEmpty()) throw new Fault(1, k.at);
        if (k.letters.length() > 3) throw new Fault(2, k.at);
        int v = Integer.parseInt(k.letters);
        if (v < least || v > most) throw new Fault(2, k.at);
        return v;
    }

    private static void end(Token k) {
        if (!k.letters.equals(";")) throw new Fault(1, k.at);
    }

    private static TreeSet<Integer> members(int set) {
        TreeSet<Integer> all = new TreeSet<>();
        for (int k = 0; k < 32; k++) if ((set >>> k & 1) != 0) all.add(k);
        return all;
    }

    private static int bits(Iterable<Integer> members) {
        int set = 0;
        for (int k : members) set |= 1 << k;
        return set;
    }

    private static World read(String t) {
        List<Token> k = tokens(t);
        World c = new World();
        for (int i = 0; !k.get(i).letters.isEmpty(); ) {
            Token word = k.get(i);
            if (!List.of("t", "p", "s", "w").contains(word.letters)) throw new Fault(1, word.at);
            if (i == 0 && word.what != 't') throw new Fault(1, word.at);
            if ((word.what == 'p' || word.what == 's') && !c.walkers.isEmpty()) throw new Fault(1, word.at);
            if (word.what == 't' && i > 0) throw new Fault(3, word.at);
            if (word.what == 'p' && c.views.size() == 5) throw new Fault(3, word.at);
            if (word.what == 's' && c.statues.size() == 6) throw new Fault(3, word.at);
            if (word.what == 'w' && c.walkers.size() == 7) throw new Fault(3, word.at);
            if (word.what == 't') {
                c.term = number(k.get(i + 1), 1, 9);
                end(k.get(i + 2));
                i += 3;
            } else if (word.what == 'p') {
                c.views.add(number(k.get(i + 1), 0, 99));
                end(k.get(i + 2));
                i += 3;
            } else if (word.what == 's') {
                Statue s = new Statue();
                s.kind = number(k.get(i + 1), 0, 3);
                Token place = k.get(i + 2);
                int p = number(place, 0, 9);
                if (p != 9 && p >= c.views.size()) throw new Fault(2, place.at);
                for (Statue o : c.statues) if (p != 9 && o.plinth == p) throw new Fault(4, place.at);
                s.plinth = p == 9 ? NONE : p;
                s.want = number(k.get(i + 3), 0, 99);
                end(k.get(i + 4));
                c.statues.add(s);
                i += 5;
            } else {
                Walker w = new Walker();
                w.under = members(number(k.get(i + 1), 0, 31));
                if (!w.under.isEmpty() && w.under.last() >= c.views.size()) throw new Fault(2, k.get(i + 1).at);
                w.votes = number(k.get(i + 2), 1, 9);
                w.likes = members(number(k.get(i + 3), 0, 63));
                if (!w.likes.isEmpty() && w.likes.last() >= c.statues.size()) throw new Fault(2, k.get(i + 3).at);
                end(k.get(i + 4));
                c.walkers.add(w);
                i += 5;
            }
        }
        return c;
    }

    int feed(int letter) {
        if (letter < 0 || letter > 255) return OUTSIDE;
        if (text.length() == 240) return FULL;
        text.append((char) letter);
        return text.length();
    }

    int capital() {
        String t = text.toString();
        text.setLength(0);
        faultAt = NONE;
        try {
            now = read(t);
        } catch (Fault f) {
            faultAt = f.at;
            return -10 - f.number;
        }
        past.clear();
        counts.clear();
        book.clear();
        Arrays.fill(images, null);
        return now.views.size();
    }

    int fault() {
        return faultAt;
    }

    // ---- looking

    private boolean noPlinth(int p) {
        return p < 0 || p >= now.views.size();
    }

    private boolean noStatue(int s) {
        return s < 0 || s >= now.statues.size();
    }

    private boolean noWalker(int w) {
        return w < 0 || w >= now.walkers.size();
    }

    private static int who(World c, int p) {
        for (int s = 0; s < c.statues.size(); s++) if (c.statues.get(s).plinth == p) return s;
        return NONE;
    }

    private static int standers(World c) {
        int set = 0;
        for (int s = 0; s < c.statues.size(); s++) if (c.statues.get(s).plinth != NONE) set |= 1 << s;
        return set;
    }

    private static int lead(World c, int s) {
        int sum = 0;
        for (Walker w : c.walkers) {
            if (w.under.contains(c.statues.get(s).plinth)) sum += w.likes.contains(s) ? w.votes : -w.votes;
        }
        return sum;
    }

    private static int losers(World c) {
        int set = 0;
        for (int s : members(standers(c))) if (lead(c, s) < 0) set |= 1 << s;
        return set;
    }

    private int liked(int s, int notBy) {
        int sum = 0;
        for (Walker w : now.walkers) if (w.likes.contains(s) && !w.likes.contains(notBy)) sum += w.votes;
        return sum;
    }

    private boolean beats(int s, int q) {
        return liked(s, q) > liked(q, s);
    }

    int told(int what) {
        int n = now.statues.size();
        switch (what) {
            case 0: return now.term;
            case 1: return now.views.size();
            case 2: return n;
            case 3: return now.walkers.size();
            case 4: return text.length();
            case 5: return now.years;
            case 6: return standers(now);
            case 7: {
                int set = 0;
                for (int p = 0; p < now.views.size(); p++) if (who(now, p) == NONE) set |= 1 << p;
                return set;
            }
            case 8: return losers(now);
            case 9:
                for (int s = 0; s < n; s++) {
                    int over = 0;
                    for (int q = 0; q < n; q++) if (q != s && beats(s, q)) over++;
                    if (over == n - 1) return s;
                }
                return NONE;
            case 10: {
                int thrice = 0;
                for (int a = 0; a < n; a++)
                    for (int b = 0; b < n; b++)
                        for (int c = 0; c < n; c++)
                            if (a != b && b != c && c != a && beats(a, b) && beats(b, c) && beats(c, a)) thrice++;
                return thrice / 3;
            }
            case 11: return counts.size();
            case 12: return book.size();
            case 13: return past.size();
            default: return OUTSIDE;
        }
    }

    private int under(int p) {
        int set = 0;
        for (int w = 0; w < now.walkers.size(); w++) if (now.walkers.get(w).under.contains(p)) set |= 1 << w;
        return set;
    }

    private int votes(int set) {
        int sum = 0;
        for (int w : members(set)) sum += now.walkers.get(w).votes;
        return sum;
    }

    int plinth(int p, int what) {
        if (noPlinth(p)) return UNKNOWN;
        if (what == 0) return now.views.get(p);
        if (what == 1) return who(now, p);
        if (what == 2) return under(p);
        if (what == 3) return votes(under(p));
        return OUTSIDE;
    }

    int statue(int s, int what) {
        if (noStatue(s)) return UNKNOWN;
        Statue x = now.statues.get(s);
        if (what == 0) return x.kind;
        if (what == 1) return x.want;
        if (what == 2) return x.plinth;
        if (what == 3) return x.tired;
        if (what == 4) return x.elected;
        if (what == 5) return x.plinth == NONE ? NONE : 1000 + lead(now, s);
        if (what == 6) {
            int set = 0;
            for (int w = 0; w < now.walkers.size(); w++) if (now.walkers.get(w).likes.contains(s)) set |= 1 << w;
            return set;
        }
        return OUTSIDE;
    }

    int walker(int w, int what) {
        if (noWalker(w)) return UNKNOWN;
        if (what == 0) return bits(now.walkers.get(w).under);
        if (what == 1) return now.walkers.get(w).votes;
        if (what == 2) return bits(now.walkers.get(w).likes);
        return OUTSIDE;
    }

    // ---- doing

    private void remember() {
        past.add(now.copy());
        if (past.size() > 16) past.remove(0);
    }

    private static void aYear(World c) {
        for (Statue s : c.statues) {
            if (s.plinth == NONE) {
                s.tired = s.tired < 5 ? 0 : s.tired - 5;
                continue;
            }
            int more = s.kind == 0 ? 3 : s.kind == 1 ? 1 : s.kind == 3 ? 0 : c.views.get(s.plinth) < s.want ? 4 : 2;
            s.tired = s.tired + more > 99 ? 99 : s.tired + more;
        }
        for (Statue s : c.statues) if (s.plinth != NONE && s.tired >= 30) s.plinth = NONE;
        c.years++;
        if (c.years % c.term != 0) return;
        int losers = losers(c);
        for (int s : members(standers(c))) {
            if (members(losers).contains(s)) c.statues.get(s).plinth = NONE;
            else c.statues.get(s).elected++;
        }
    }

    private int years(int n, boolean byDraws) {
        if (n < 1 || n > 60) return OUTSIDE;
        if (now.term == 0) return NOT;
        if (now.years > 9000) return FULL;
        remember();
        for (int i = 0; i < n; i++) {
            if (byDraws) befall();
            aYear(now);
        }
        return standers(now);
    }

    private int draw(int n) {
        seed = (seed * 1103515245L + 12345L) % 2147483648L;
        return (int) (seed / 65536 % n);
    }

    private void befall() {
        int which = draw(4);
        if (which == 0 && !now.walkers.isEmpty() && !now.views.isEmpty()) {
            Walker w = now.walkers.get(draw(now.walkers.size()));
            int p = draw(now.views.size());
            if (!w.under.remove(p)) w.under.add(p);
        } else if (which == 1 && !now.statues.isEmpty() && !now.views.isEmpty()) {
            Statue s = now.statues.get(draw(now.statues.size()));
            int p = draw(now.views.size());
            if (s.plinth == NONE && who(now, p) == NONE) s.plinth = p;
        } else if (which == 2 && !now.statues.isEmpty()) {
            now.statues.get(draw(now.statues.size())).tired = 0;
        }
    }

    int year(int n) {
        return years(n, false);
    }

    int drift(int n) {
        return years(n, true);
    }

    int stand(int s, int p) {
        if (noStatue(s) || noPlinth(p)) return UNKNOWN;
        if (now.statues.get(s).plinth != NONE || who(now, p) != NONE) return NOT;
        remember();
        now.statues.get(s).plinth = p;
        return 1000 + lead(now, s);
    }

    int down(int s) {
        if (noStatue(s)) return UNKNOWN;
        int was = now.statues.get(s).plinth;
        if (was == NONE) return NOT;
        remember();
        now.statues.get(s).plinth = NONE;
        return was;
    }

    int scrub(int s) {
        if (noStatue(s)) return UNKNOWN;
        remember();
        int was = now.statues.get(s).tired;
        now.statues.get(s).tired = 0;
        return was;
    }

    private static boolean beyond(int set, int n) {
        for (int k : members(set)) if (k >= n) return true;
        return false;
    }

    int walk(int w, int set) {
        if (noWalker(w) || beyond(set, now.views.size())) return UNKNOWN;
        remember();
        int was = bits(now.walkers.get(w).under);
        now.walkers.get(w).under = members(set);
        return was;
    }

    int like(int w, int set) {
        if (noWalker(w) || beyond(set, now.statues.size())) return UNKNOWN;
        remember();
        int was = bits(now.walkers.get(w).likes);
        now.walkers.get(w).likes = members(set);
        return was;
    }

    int undo() {
        if (past.isEmpty()) return NOT;
        now = past.remove(past.size() - 1);
        return past.size();
    }

    // ---- trying

    int standing(int s, int n) {
        if (noStatue(s)) return UNKNOWN;
        if (n < 0 || n > 60) return OUTSIDE;
        World c = now.copy();
        for (int i = 0; i < n; i++) aYear(c);
        return c.statues.get(s).plinth;
    }

    int goesDown(int s) {
        if (noStatue(s)) return UNKNOWN;
        World c = now.copy();
        int passed = 0;
        while (c.statues.get(s).plinth != NONE) {
            if (passed == 100) return NONE;
            aYear(c);
            passed++;
        }
        return passed;
    }

    int change(int s, int what) {
        if (noStatue(s)) return UNKNOWN;
        if (what != 0 && what != 1) return OUTSIDE;
        int p = now.statues.get(s).plinth;
        if (p == NONE) return NOT;
        for (int fewest = 0; fewest <= now.walkers.size(); fewest++) {
            for (int set = 0; set < 1 << now.walkers.size(); set++) {
                if (members(set).size() != fewest) continue;
                World c = now.copy();
                for (int w : members(set)) {
                    if (!c.walkers.get(w).under.remove(p)) c.walkers.get(w).under.add(p);
                }
                if (lead(c, s) >= 0 == (what == 0)) return set;
            }
        }
        return NONE;
    }

    private int orders(int w, int came, int left, int enough) {
        int sum = 0;
        for (int next : members(left)) {
            int then = came | 1 << next;
            boolean first = votes(came) < enough && votes(then) >= enough;
            if (next != w && first) continue;
            if (first) {
                int rest = 1;
                for (int k = members(left).size() - 1; k > 1; k--) rest *= k;
                sum += rest;
            } else {
                sum += orders(w, then, left & ~(1 << next), enough);
            }
        }
        return sum;
    }

    int power(int w, int p, int what) {
        if (noWalker(w) || noPlinth(p)) return UNKNOWN;
        if (what != 0 && what != 1) return OUTSIDE;
        int all = under(p);
        if (!members(all).contains(w)) return 0;
        int enough = votes(all) / 2 + votes(all) % 2;
        if (what == 0) return orders(w, 0, all, enough);
        int sum = 0;
        for (int set = 0; set <= all; set++) {
            if ((set & all) == set && !members(set).contains(w) && votes(set) < enough && votes(set | 1 << w) >= enough) sum++;
        }
        return sum;
    }

    int mostHave(int s, int q) {
        if (noStatue(s) || noStatue(q) || s == q) return UNKNOWN;
        return beats(s, q) ? 1 : 0;
    }

    private int[] bestPlaces;
    private int bestMany, bestView;

    private void tryPlaces(int s, int[] so, int many, int view) {
        if (s == so.length) {
            if (many > bestMany || many == bestMany && view > bestView) {
                bestMany = many;
                bestView = view;
                bestPlaces = so.clone();
            }
            return;
        }
        for (int p = 0; p < now.views.size(); p++) {
            boolean taken = false;
            for (int o = 0; o < s; o++) taken |= so[o] == p;
            if (taken || now.views.get(p) < now.statues.get(s).want) continue;
            so[s] = p;
            tryPlaces(s + 1, so, many + 1, view + now.views.get(p));
        }
        so[s] = NONE;
        tryPlaces(s + 1, so, many, view);
    }

    int places(int s) {
        if (s != -1 && s != -2 && noStatue(s)) return UNKNOWN;
        bestMany = -1;
        tryPlaces(0, new int[now.statues.size()], 0, 0);
        return s == -1 ? bestMany : s == -2 ? bestView : bestPlaces[s];
    }

    int swaps(int i) {
        List<Integer> pairs = new ArrayList<>();
        for (int s : members(standers(now))) {
            for (int q : members(standers(now))) {
                Statue a = now.statues.get(s), b = now.statues.get(q);
                int viewA = now.views.get(a.plinth), viewB = now.views.get(b.plinth);
                if (s < q && viewB >= a.want && viewA >= b.want && (viewA < a.want || viewB < b.want)) pairs.add(100 * s + q);
            }
        }
        if (i == NONE) return pairs.size();
        return i < 0 || i >= pairs.size() ? NONE : pairs.get(i);
    }

    int close(int n, int q) {
        if (n < 0 || n > 60 || q < 0 || q > 100) return OUTSIDE;
        long x = 1000000000L;
        while (n-- > 0) x = x * q / 100;
        return (int) x;
    }

    // ---- counting

    int count(int p, int v) {
        if (noPlinth(p)) return UNKNOWN;
        if (v < 0 || v > 99) return OUTSIDE;
        if (counts.size() == 6) return FULL;
        counts.add(new int[] {p, v});
        return counts.size();
    }

    private List<Integer> fitting() {
        List<Integer> all = new ArrayList<>();
        for (int set = 0; set < 1 << now.walkers.size(); set++) {
            boolean fits = true;
            for (int[] c : counts) fits &= votes(set & under(c[0])) == c[1];
            if (fits) all.add(set);
        }
        return all;
    }

    int likings(int what) {
        if (what != 0 && what != 1) return OUTSIDE;
        List<Integer> all = fitting();
        if (what == 0) return all.size();
        if (all.isEmpty()) return NONE;
        int each = all.get(0);
        for (int set : all) each &= set;
        return each;
    }

    int ladder() {
        List<Integer> all = fitting();
        int best = NONE, least = Integer.MAX_VALUE;
        for (int p = 0; p < now.views.size(); p++) {
            TreeMap<Integer, Integer> parts = new TreeMap<>();
            for (int set : all) parts.merge(votes(set & under(p)), 1, Integer::sum);
            int greatest = 0;
            for (int size : parts.values()) greatest = Math.max(greatest, size);
            if (parts.size() > 1 && greatest < least) {
                least = greatest;
                best = p;
            }
        }
        return best;
    }

    int write(int s, int p) {
        if (noStatue(s) || p != NONE && noPlinth(p)) return UNKNOWN;
        if (book.size() == 15) return FULL;
        book.add(new int[] {s, p});
        return book.size();
    }

    int tear() {
        int both = counts.size() + book.size();
        counts.clear();
        book.clear();
        return both;
    }

    int judge() {
        for (int i = 0; i < book.size(); i++) if (now.statues.get(book.get(i)[0]).plinth != book.get(i)[1]) return i;
        return NONE;
    }

    // ---- draws, images

    int seed(int v) {
        if (v < 0) return OUTSIDE;
        int was = (int) seed;
        seed = v;
        return was;
    }

    int keep(int i) {
        if (i != 0 && i != 1) return UNKNOWN;
        images[i] = now.copy();
        imageSeeds[i] = seed;
        past.clear();
        return 1;
    }

    int goBack(int i) {
        if (i != 0 && i != 1) return UNKNOWN;
        if (images[i] == null) return NOT;
        now = images[i].copy();
        seed = imageSeeds[i];
        past.clear();
        return 1;
    }
}
