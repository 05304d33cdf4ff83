import java.util.ArrayDeque;
import java.util.ArrayList;
import java.util.Deque;
import java.util.HashSet;
import java.util.List;
import java.util.Set;

/** The document told a second time, in the slowest and plainest way, for RandomRunsTest to compare with. */
final class PlainIsles {
    static final int NONE = -1, UNKNOWN = -1000000001, OUTSIDE = -1000000002, NOT = -1000000003, FULL = -1000000004;
    static final int FAR = 1000;

    record Tie(int a, int b, int kind, int strength, int f, int g) { }

    record Told(int islands, List<Tie> ties, List<Integer> winds) { }

    record Word(char kind, int at, String figures) { }

    record Heard(int a, int b, boolean hang) { }

    record Entry(int l, int is) { }

    static final class Now {
        int[] strain;
        boolean[] up, turned, held;
        int hours, silver, broke;

        static Now of(Told sea) {
            Now n = new Now();
            int count = sea == null ? 0 : sea.ties.size();
            n.strain = new int[count];
            n.up = new boolean[count];
            n.turned = new boolean[count];
            n.held = new boolean[count];
            java.util.Arrays.fill(n.up, true);
            n.silver = sea == null ? 0 : 3;
            return n;
        }

        Now copy() {
            Now n = new Now();
            n.strain = strain.clone();
            n.up = up.clone();
            n.turned = turned.clone();
            n.held = held.clone();
            n.hours = hours;
            n.silver = silver;
            n.broke = broke;
            return n;
        }
    }

    static final class Fault extends RuntimeException {
        final int kind, at;

        Fault(int kind, int at) {
            this.kind = kind;
            this.at = at;
        }
    }

    private String text = "";
    private int faultAt = NONE;
    private Told told = null;
    private Now now = Now.of(null);
    private final Deque<Now> undone = new ArrayDeque<>();
    private final Now[] images = new Now[2];
    private final long[] seeds = new long[2];
    private final List<Heard> heard = new ArrayList<>();
    private final List<Entry> book = new ArrayList<>();
    private long seed = 0;

    // ---- the text

    static List<Word> words(String text) {
        List<Word> words = new ArrayList<>();
        int i = 0;
        while (i < text.length()) {
            int start = i;
            char c = text.charAt(i++);
            if (Character.isDigit(c) && c < 128) {
                while (i < text.length() && text.charAt(i) >= '0' && text.charAt(i) <= '9') {
                    i++;
                }
                words.add(new Word('#', start, text.substring(start, i)));
            } else if (c != ' ') {
                words.add(new Word(c, start, ""));
            }
        }
        words.add(new Word('$', text.length(), ""));
        return words;
    }

    /** The shape of a clause is looked at word by word, each word's faults in the order of their numbers. */
    static Told parse(String text) {
        List<Word> words = words(text);
        int islands = 0;
        List<Tie> ties = new ArrayList<>();
        List<Integer> winds = new ArrayList<>();
        boolean blown = false;
        int p = 0;
        while (words.get(p).kind != '$' || words.get(p).at != text.length()) {
            Word w = words.get(p++);
            boolean isWord = w.kind == 's' || w.kind == 'l' || w.kind == 'w';
            if (!isWord || islands == 0 && w.kind != 's') {
                throw new Fault(1, w.at);
            }
            if (w.kind == 's' && islands != 0 || w.kind == 'w' && blown || w.kind == 'l' && ties.size() == 10) {
                throw new Fault(3, w.at);
            }
            List<Integer> n = new ArrayList<>();
            int[][] bounds = w.kind == 's' ? new int[][] {{2, 8}} : w.kind == 'l'
                ? new int[][] {{0, islands - 1}, {0, islands - 1}, {0, 3}, {1, 99}, {0, 9}, {0, 9}} : new int[12][];
            for (int k = 0; k < bounds.length; k++) {
                Word x = words.get(p++);
                int[] bound = w.kind == 'w' ? new int[] {0, 9} : bounds[k];
                if (x.kind != '#') {
                    throw new Fault(1, x.at);
                }
                if (x.figures.length() > 3 || Integer.parseInt(x.figures) < bound[0] || Integer.parseInt(x.figures) > bound[1]) {
                    throw new Fault(2, x.at);
                }
                n.add(Integer.parseInt(x.figures));
                if (w.kind == 'l' && k == 1 && n.get(0).equals(n.get(1))) {
                    throw new Fault(4, x.at);
                }
                if (w.kind == 'w' && k < 11) {
                    if (words.get(p).kind != ',') {
                        break;
                    }
                    p++;
                }
            }
            Word end = words.get(p++);
            if (end.kind != ';') {
                throw new Fault(1, end.at);
            }
            if (w.kind == 's') {
                islands = n.get(0);
            } else if (w.kind == 'w') {
                winds = n;
                blown = true;
            } else {
                ties.add(new Tie(n.get(0), n.get(1), n.get(2), n.get(3), n.get(4), n.get(5)));
            }
        }
        return islands == 0 ? null : new Told(islands, ties, winds);
    }

    int feed(int letter) {
        if (letter < 0 || letter > 255) {
            return OUTSIDE;
        }
        if (text.length() == 240) {
            return FULL;
        }
        text += (char) letter;
        return text.length();
    }

    int sea() {
        String t = text;
        text = "";
        faultAt = NONE;
        try {
            told = parse(t);
        } catch (Fault f) {
            faultAt = f.at;
            return -10 - f.kind;
        }
        now = Now.of(told);
        undone.clear();
        images[0] = null;
        images[1] = null;
        heard.clear();
        book.clear();
        return links();
    }

    int fault() {
        return faultAt;
    }

    // ---- small things

    private int islands() {
        return told == null ? 0 : told.islands;
    }

    private int links() {
        return told == null ? 0 : told.ties.size();
    }

    private boolean isIsland(int a) {
        return a >= 0 && a < islands();
    }

    private boolean isLink(int l) {
        return l >= 0 && l < links();
    }

    private boolean areTwo(int a, int b) {
        return isIsland(a) && isIsland(b) && a != b;
    }

    private int windAt(int k) {
        return told == null || told.winds.isEmpty() ? 0 : told.winds.get(k % told.winds.size());
    }

    private static int set(boolean[] of) {
        int s = 0;
        for (int i = 0; i < of.length; i++) {
            s += of[i] ? 1 << i : 0;
        }
        return s;
    }

    private static int count(boolean[] of) {
        return Integer.bitCount(set(of));
    }

    /** How many links lie between any two islands (Floyd and Warshall). */
    private int[][] distances(int set) {
        int n = islands();
        int[][] d = new int[n][n];
        for (int i = 0; i < n; i++) {
            for (int j = 0; j < n; j++) {
                d[i][j] = i == j ? 0 : FAR;
            }
        }
        for (int l = 0; l < links(); l++) {
            if ((set & 1 << l) != 0) {
                Tie t = told.ties.get(l);
                d[t.a][t.b] = 1;
                d[t.b][t.a] = 1;
            }
        }
        for (int k = 0; k < n; k++) {
            for (int i = 0; i < n; i++) {
                for (int j = 0; j < n; j++) {
                    d[i][j] = Math.min(d[i][j], d[i][k] + d[k][j]);
                }
            }
        }
        return d;
    }

    private boolean hang(int a, int b, int set) {
        return distances(set)[a][b] < FAR;
    }

    private int partsOf(int set) {
        int[][] d = distances(set);
        int parts = 0;
        for (int i = 0; i < d.length; i++) {
            boolean isFirst = true;
            for (int j = 0; j < i; j++) {
                isFirst &= d[i][j] >= FAR;
            }
            parts += isFirst ? 1 : 0;
        }
        return parts;
    }

    private void pass(Now n) {
        int x = windAt(n.hours);
        for (int l = 0; l < links(); l++) {
            Tie t = told.ties.get(l);
            if (n.up[l]) {
                int more = t.kind == 0 ? x : t.kind == 1 ? (x < 6 ? 0 : x + x) : t.kind == 2 ? x / 2 : n.held[l] ? (x < 3 ? 0 : x - 3) : x;
                n.strain[l] += more;
                if (n.strain[l] >= t.strength) {
                    n.up[l] = false;
                    n.broke++;
                }
            }
        }
        n.hours++;
    }

    private Now behind(Now from, int hours) {
        Now n = from.copy();
        for (int i = 0; i < hours; i++) {
            pass(n);
        }
        return n;
    }

    private int clashing(Now n) {
        int clash = 0;
        for (int a = 0; a < islands(); a++) {
            Set<Integer> read = new HashSet<>();
            for (int l = 0; l < links(); l++) {
                int r = readOf(n, a, l);
                if (r != NONE) {
                    read.add(r);
                }
            }
            clash += read.size() > 1 ? 1 << a : 0;
        }
        return clash;
    }

    private int readOf(Now n, int a, int l) {
        Tie t = told.ties.get(l);
        if (!n.up[l] || t.a != a && t.b != a) {
            return NONE;
        }
        if (t.a == a) {
            return n.turned[l] ? t.g : t.f;
        }
        return n.turned[l] ? t.f : t.g;
    }

    private void deed() {
        undone.addLast(now.copy());
        if (undone.size() > 30) {
            undone.removeFirst();
        }
    }

    // ---- the calls

    int told(int what) {
        int alone = 0;
        if (what == 8) {
            int up = set(now.up);
            for (int l = 0; l < links(); l++) {
                alone += now.up[l] && partsOf(up - (1 << l)) > partsOf(up) ? 1 << l : 0;
            }
        }
        return switch (what) {
            case 0 -> islands();
            case 1 -> links();
            case 2 -> told == null ? 0 : told.winds.size();
            case 3 -> text.length();
            case 4 -> now.hours;
            case 5 -> told == null ? 0 : now.silver;
            case 6 -> now.broke;
            case 7 -> set(now.up);
            case 8 -> alone;
            case 9 -> clashing(now);
            case 10 -> heard.size();
            case 11 -> book.size();
            case 12 -> undone.size();
            default -> OUTSIDE;
        };
    }

    int link(int l, int what) {
        if (!isLink(l)) {
            return UNKNOWN;
        }
        Tie t = told.ties.get(l);
        return switch (what) {
            case 0 -> t.a;
            case 1 -> t.b;
            case 2 -> t.kind;
            case 3 -> t.strength;
            case 4 -> now.strain[l];
            case 5 -> now.up[l] ? 1 : 0;
            case 6 -> now.turned[l] ? 1 : 0;
            case 7 -> now.held[l] ? 1 : 0;
            case 8 -> t.f;
            case 9 -> t.g;
            default -> OUTSIDE;
        };
    }

    int reads(int a, int l) {
        return isIsland(a) && isLink(l) ? readOf(now, a, l) : UNKNOWN;
    }

    int wind(int n) {
        return n < 0 || n > 60 ? OUTSIDE : told == null ? NOT : windAt(now.hours + n);
    }

    int hour(int n) {
        if (n < 1 || n > 30) {
            return OUTSIDE;
        }
        if (told == null) {
            return NOT;
        }
        for (int i = 0; i < n; i++) {
            deed();
            pass(now);
        }
        return set(now.up);
    }

    int undoLink(int l) {
        if (!isLink(l)) {
            return UNKNOWN;
        }
        if (!now.up[l]) {
            return NOT;
        }
        deed();
        now.up[l] = false;
        return count(now.up);
    }

    int doUp(int l) {
        if (!isLink(l)) {
            return UNKNOWN;
        }
        if (now.up[l] || now.strain[l] >= told.ties.get(l).strength) {
            return NOT;
        }
        deed();
        now.up[l] = true;
        return count(now.up);
    }

    int turn(int l) {
        if (!isLink(l)) {
            return UNKNOWN;
        }
        deed();
        now.turned[l] = !now.turned[l];
        return now.turned[l] ? 1 : 0;
    }

    int mend(int l) {
        if (!isLink(l)) {
            return UNKNOWN;
        }
        if (now.silver == 0) {
            return NOT;
        }
        deed();
        now.strain[l] = 0;
        return --now.silver;
    }

    int hold(int l, boolean is) {
        if (!isLink(l)) {
            return UNKNOWN;
        }
        if (told.ties.get(l).kind != 3) {
            return NOT;
        }
        deed();
        int was = now.held[l] ? 1 : 0;
        now.held[l] = is;
        return was;
    }

    int earn(int n) {
        if (n < 1 || n > 99) {
            return OUTSIDE;
        }
        if (told == null) {
            return NOT;
        }
        deed();
        now.silver = now.silver + n > 99 ? 99 : now.silver + n;
        return now.silver;
    }

    private int draw(int n) {
        seed = (seed * 1103515245L + 12345L) % (1L << 31);
        return (int) (seed / 65536L % n);
    }

    int drift(int n) {
        if (n < 1 || n > 30) {
            return OUTSIDE;
        }
        if (told == null) {
            return NOT;
        }
        for (int i = 0; i < n; i++) {
            deed();
            int d = links() > 0 ? draw(6) : 5;
            if (d < 3) {
                int l = draw(links());
                if (d == 0) {
                    now.up[l] = false;
                }
                if (d == 1 && now.strain[l] < told.ties.get(l).strength) {
                    now.up[l] = true;
                }
                if (d == 2) {
                    now.turned[l] = !now.turned[l];
                }
            }
            pass(now);
        }
        return set(now.up);
    }

    int undo(int n) {
        if (n < 1 || n > 30) {
            return OUTSIDE;
        }
        if (undone.size() < n) {
            return NOT;
        }
        for (int i = 0; i < n; i++) {
            now = undone.removeLast();
        }
        return now.hours;
    }

    int lasts(int l) {
        if (!isLink(l)) {
            return UNKNOWN;
        }
        if (!now.up[l]) {
            return NONE;
        }
        for (int h = 1; h <= 200; h++) {
            if (!behind(now, h).up[l]) {
                return h;
            }
        }
        return NONE;
    }

    int first(int what) {
        if (what < 0 || what > 1) {
            return OUTSIDE;
        }
        int who = NONE;
        int when = NONE;
        for (int l = 0; l < links(); l++) {
            int h = lasts(l);
            if (h != NONE && (when == NONE || h < when)) {
                when = h;
                who = l;
            }
        }
        return what == 0 ? who : when;
    }

    int still(int n) {
        return n < 0 || n > 60 ? OUTSIDE : set(behind(now, n).up);
    }

    int parts(int n) {
        return n < 0 || n > 60 ? OUTSIDE : partsOf(set(behind(now, n).up));
    }

    int together(int a) {
        if (!isIsland(a)) {
            return UNKNOWN;
        }
        int s = 0;
        for (int b = 0; b < islands(); b++) {
            s += hang(a, b, set(now.up)) ? 1 << b : 0;
        }
        return s;
    }

    int between(int a, int b, int what) {
        if (!areTwo(a, b)) {
            return UNKNOWN;
        }
        if (what < 0 || what > 1) {
            return OUTSIDE;
        }
        int up = set(now.up);
        int best = up;
        for (int s = up; s >= 0; s--) {
            if ((s | up) == up && Integer.bitCount(s) <= Integer.bitCount(best) && !hang(a, b, up - s)) {
                best = s;
            }
        }
        return what == 0 ? Integer.bitCount(best) : best;
    }

    int way(int a, int b, int what) {
        if (!areTwo(a, b)) {
            return UNKNOWN;
        }
        if (what < 0 || what > 1) {
            return OUTSIDE;
        }
        int[][] d = distances(set(now.up));
        if (d[a][b] >= FAR) {
            return NONE;
        }
        for (int l = links() - 1, found = NONE; what == 1; l--) {
            if (l < 0) {
                return found;
            }
            Tie t = told.ties.get(l);
            boolean onWay = t.a == a && d[t.b][b] + 1 == d[a][b] || t.b == a && d[t.a][b] + 1 == d[a][b];
            found = now.up[l] && onWay ? l : found;
        }
        return d[a][b];
    }

    int widest(int a, int b) {
        if (!areTwo(a, b)) {
            return UNKNOWN;
        }
        for (int v = 99; v > 0; v--) {
            int s = 0;
            for (int l = 0; l < links(); l++) {
                s += now.up[l] && told.ties.get(l).strength - now.strain[l] >= v ? 1 << l : 0;
            }
            if (hang(a, b, s)) {
                return v;
            }
        }
        return NONE;
    }

    int farthest(int a, int what) {
        if (!isIsland(a)) {
            return UNKNOWN;
        }
        if (what < 0 || what > 1) {
            return OUTSIDE;
        }
        int[] d = distances(set(now.up))[a];
        int who = a;
        for (int b = islands() - 1; b >= 0; b--) {
            if (d[b] < FAR && d[b] >= d[who] && b != a && d[b] > 0) {
                who = b;
            }
        }
        return what == 0 ? who : d[who];
    }

    int keepUp(int n, int what) {
        if (n < 0 || n > 60 || what < 0 || what > 1) {
            return OUTSIDE;
        }
        int up = set(now.up);
        int best = NONE;
        for (int s = 0; s <= up; s++) {
            if ((s | up) != up || best != NONE && Integer.bitCount(s) >= Integer.bitCount(best)) {
                continue;
            }
            Now trial = now.copy();
            for (int l = 0; l < links(); l++) {
                trial.strain[l] = (s & 1 << l) != 0 ? 0 : trial.strain[l];
            }
            if (partsOf(set(behind(trial, n).up)) <= partsOf(up)) {
                best = s;
            }
        }
        return best == NONE || what == 1 ? best : Integer.bitCount(best);
    }

    int agree(int what) {
        if (what < 0 || what > 1) {
            return OUTSIDE;
        }
        int up = set(now.up);
        long best = Long.MAX_VALUE;
        for (int s = 0; s <= up; s++) {
            if ((s | up) == up) {
                Now trial = now.copy();
                for (int l = 0; l < links(); l++) {
                    trial.turned[l] ^= (s & 1 << l) != 0;
                }
                best = Math.min(best, Integer.bitCount(clashing(trial)) * 1000000L + Integer.bitCount(s) * 10000L + s);
            }
        }
        return (int) (what == 0 ? best / 1000000 : best % 10000);
    }

    int fold(int i) {
        List<Integer> pairs = new ArrayList<>();
        for (int a = 0; a < islands(); a++) {
            for (int b = a + 1; b < islands(); b++) {
                Set<Integer> ofA = new HashSet<>();
                Set<Integer> ofB = new HashSet<>();
                for (int l = 0; l < links(); l++) {
                    Tie t = told.ties.get(l);
                    if (now.up[l]) {
                        if (t.a == a || t.b == a) {
                            ofA.add(t.a + t.b - a);
                        }
                        if (t.a == b || t.b == b) {
                            ofB.add(t.a + t.b - b);
                        }
                    }
                }
                ofA.remove(b);
                ofB.remove(a);
                if (ofA.equals(ofB) && !ofA.isEmpty()) {
                    pairs.add(10 * a + b);
                }
            }
        }
        return i == NONE ? pairs.size() : i >= 0 && i < pairs.size() ? pairs.get(i) : NONE;
    }

    int share(int n, int what) {
        if (n < 0 || n > 99 || what < 0 || what > 1) {
            return OUTSIDE;
        }
        List<Integer> row = new ArrayList<>();
        for (int l = 0; l < links(); l++) {
            if (now.up[l]) {
                row.add(l);
            }
        }
        row.sort((p, q) -> now.strain[p] != now.strain[q] ? now.strain[q] - now.strain[p] : p - q);
        int s = 0;
        for (int i = 0; i < row.size() && i < n; i++) {
            s += 1 << row.get(i);
        }
        return what == 0 ? Math.max(0, n - row.size()) : s;
    }

    int calm(int n, int q) {
        if (n < 0 || n > 60 || q < 0 || q > 100) {
            return OUTSIDE;
        }
        return n == 0 ? 1000000000 : (int) ((long) calm(n - 1, q) * q / 100);
    }

    int hear(int a, int b, boolean hang) {
        if (!areTwo(a, b)) {
            return UNKNOWN;
        }
        if (heard.size() == 6) {
            return FULL;
        }
        heard.add(new Heard(a, b, hang));
        return heard.size();
    }

    private List<Integer> left() {
        List<Integer> sets = new ArrayList<>();
        for (int c = 0; c <= 10; c++) {
            boolean fits = c == 10 || c < links() && now.up[c];
            int s = set(now.up) & ~(1 << c);
            for (Heard h : heard) {
                fits = fits && hang(h.a, h.b, s) == h.hang;
            }
            sets.add(fits ? s : NONE);
        }
        return sets;
    }

    int traitor() {
        int s = 0;
        for (int c = 0; c <= 10; c++) {
            s += left().get(c) != NONE ? 1 << c : 0;
        }
        return s;
    }

    int ask() {
        int best = NONE;
        int least = 100;
        List<Integer> sets = left();
        for (int a = 0; a < islands(); a++) {
            for (int b = a + 1; b < islands(); b++) {
                int yes = 0;
                int no = 0;
                for (int s : sets) {
                    if (s != NONE) {
                        if (hang(a, b, s)) {
                            yes++;
                        } else {
                            no++;
                        }
                    }
                }
                if (yes > 0 && no > 0 && Math.max(yes, no) < least) {
                    least = Math.max(yes, no);
                    best = 10 * a + b;
                }
            }
        }
        return best;
    }

    int write(int l, int is) {
        if (!isLink(l)) {
            return UNKNOWN;
        }
        if (is != 0 && is != 1) {
            return OUTSIDE;
        }
        if (book.size() == 20) {
            return FULL;
        }
        book.add(new Entry(l, is));
        return book.size();
    }

    int judge() {
        for (int i = 0; i < book.size(); i++) {
            if (now.up[book.get(i).l] != (book.get(i).is == 1)) {
                return i;
            }
        }
        return NONE;
    }

    int tear() {
        int had = heard.size() + book.size();
        heard.clear();
        book.clear();
        return had;
    }

    int seed(int v) {
        if (v < 0) {
            return OUTSIDE;
        }
        int was = (int) seed;
        seed = v;
        return was;
    }

    int keep(int i) {
        if (i != 0 && i != 1) {
            return UNKNOWN;
        }
        images[i] = now.copy();
        seeds[i] = seed;
        undone.clear();
        return 1;
    }

    int goBack(int i) {
        if (i != 0 && i != 1) {
            return UNKNOWN;
        }
        if (images[i] == null) {
            return NOT;
        }
        now = images[i].copy();
        seed = seeds[i];
        undone.clear();
        return 1;
    }
}
