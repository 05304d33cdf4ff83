import java.util.ArrayList;
import java.util.List;
import java.util.function.Supplier;

/**
 * 'TRIED from now': what is tried is what comes if it is done. Each answer is looked for by doing it, by the calls of the face alone, on
 * objects that are made alike: hours pass, each set of links is mended, turned or undone.
 */
public final class TriedIsDoneTest {
    private static final Due DUE = new Due("TriedIsDoneTest");
    private static final String TEN = "s8;l0 1 0 40 1 2;l1 2 1 60 2 2;l2 3 2 19 2 1;l3 4 3 33 1 3;l4 5 0 52 3 3;l5 6 3 27 3 1;"
        + "l6 7 2 12 1 1;l7 0 1 44 1 2;l0 4 3 70 2 4;l2 6 0 31 4 4;w6,1,9,0,3,7,2,5,8,4,0,1;";
    private static final String SEVEN = "s7;l6 0 3 30 1 2;l0 1 3 30 2 1;l1 2 2 14 1 1;l2 3 0 30 1 4;l3 6 1 40 4 1;l0 3 0 29 2 4;l4 5 3 9 5 5;w0,3,9,1,6;";
    private static final String ROW = "s8;l0 1 0 99 1 2;l1 2 0 98 3 4;l2 3 0 97 5 6;l3 4 0 96 7 8;l4 5 0 95 9 0;l5 6 0 94 1 2;l6 7 0 93 3 4;w1,0,2;";

    private static String place;
    private static Supplier<LinkedIsles> made;

    public static void main(String[] args) {
        in("ten links at first", () -> Due.isles(TEN));
        in("ten links, behind 4 hours, held and mended", TriedIsDoneTest::held);
        in("ten links, by draws", TriedIsDoneTest::drifted);
        in("seven links, one stud held", TriedIsDoneTest::seven);
        in("seven links, strained", TriedIsDoneTest::strained);
        in("a row", TriedIsDoneTest::row);
        in("no links", () -> Due.isles("s3;w4;"));
        DUE.end();
    }

    private static LinkedIsles held() {
        LinkedIsles x = Due.isles(TEN);
        x.hold(3, true);
        x.hold(5, true);
        x.hour(4);
        x.turn(2);
        x.turn(7);
        x.mend(2);
        x.undoLink(9);
        return x;
    }

    private static LinkedIsles drifted() {
        LinkedIsles x = Due.isles(TEN);
        x.hold(8, true);
        x.seed(2026);
        x.drift(7);
        x.earn(9);
        return x;
    }

    private static LinkedIsles seven() {
        LinkedIsles x = Due.isles(SEVEN);
        x.hold(1, true);
        x.hour(1);
        return x;
    }

    private static LinkedIsles strained() {
        LinkedIsles x = seven();
        x.hold(6, true);
        x.hour(6);
        x.turn(0);
        x.turn(3);
        return x;
    }

    private static LinkedIsles row() {
        LinkedIsles x = Due.isles(ROW);
        x.hour(25);
        x.hour(20);
        return x;
    }

    private static void in(String name, Supplier<LinkedIsles> how) {
        place = name;
        made = how;
        hours();
        breaks();
        windsBehind();
        hanging();
        ways();
        alone();
        traitors();
        cuts();
        turned();
        mended(1);
        mended(2);
        mended(5);
        mended(11);
    }

    private static void is(String call, int due, int got) {
        DUE.is(place + ": " + call, due, got);
    }

    private static void hours() {
        LinkedIsles tried = made.get();
        LinkedIsles done = made.get();
        for (int n = 0; n <= 60; n++) {
            is("20: still(" + n + ")", done.told(7), tried.still(n));
            is("21: parts(" + n + ")", done.parts(0), tried.parts(n));
            done.hour(1);
        }
    }

    private static void breaks() {
        LinkedIsles tried = made.get();
        LinkedIsles done = made.get();
        int links = tried.told(1);
        int[] lasts = new int[links];
        int first = Due.NONE;
        int when = Due.NONE;
        for (int l = 0; l < links; l++) {
            lasts[l] = Due.NONE;
        }
        for (int h = 1; h <= 200; h++) {
            int was = done.told(7);
            int gone = was & ~done.hour(1);
            for (int l = links - 1; l >= 0; l--) {
                if ((gone & 1 << l) != 0) {
                    lasts[l] = h;
                    first = when == Due.NONE || when == h ? l : first;
                    when = when == Due.NONE ? h : when;
                }
            }
        }
        for (int l = 0; l < links; l++) {
            is("18: lasts(" + l + ")", lasts[l], tried.lasts(l));
        }
        is("19: first(0)", first, tried.first(0));
        is("19: first(1)", when, tried.first(1));
    }

    private static void windsBehind() {
        LinkedIsles tried = made.get();
        LinkedIsles done = made.get();
        for (int n = 0; n <= 60; n++) {
            is("8: wind(" + n + ")", done.wind(0), tried.wind(n));
            done.hour(1);
        }
    }

    /** Those that hang together hang together with the same ones; how many such lots there are is PARTS. */
    private static void hanging() {
        LinkedIsles x = made.get();
        int lots = 0;
        for (int a = 0; a < x.told(0); a++) {
            int with = x.together(a);
            is("22: " + a + " is with itself", 1, with >> a & 1);
            for (int b = 0; b < x.told(0); b++) {
                if ((with >> b & 1) != 0) {
                    is("22: " + b + " is with those that " + a + " is with", with, x.together(b));
                }
            }
            lots += Integer.numberOfTrailingZeros(with) == a ? 1 : 0;
        }
        is("21: parts(0)", lots, x.parts(0));
    }

    /** Along the first LINK the WAY is one shorter; none is there but between those that hang together. */
    private static void ways() {
        LinkedIsles x = made.get();
        for (int a = 0; a < x.told(0); a++) {
            int who = a;
            int far = 0;
            for (int b = 0; b < x.told(0); b++) {
                if (a != b) {
                    int way = x.way(a, b, 0);
                    is("24: way(" + a + ", " + b + ") is there", x.together(a) >> b & 1, way == Due.NONE ? 0 : 1);
                    is("24: way(" + a + ", " + b + ") and back", x.way(b, a, 0), way);
                    is("25: widest(" + a + ", " + b + ") and back", x.widest(b, a), x.widest(a, b));
                    is("25: widest(" + a + ", " + b + ")", widest(a, b), x.widest(a, b));
                    is("24: way(" + a + ", " + b + ", 1)", firstOf(x, a, b, way), x.way(a, b, 1));
                    who = way > far ? b : who;
                    far = Math.max(far, way);
                }
            }
            is("26: farthest(" + a + ", 0)", who, x.farthest(a, 0));
            is("26: farthest(" + a + ", 1)", far, x.farthest(a, 1));
        }
    }

    private static int firstOf(LinkedIsles x, int a, int b, int way) {
        for (int l = 0; l < x.told(1) && way != Due.NONE; l++) {
            boolean ofA = x.link(l, 0) == a || x.link(l, 1) == a;
            int next = x.link(l, 0) + x.link(l, 1) - a;
            if (ofA && x.link(l, 5) == 1 && (next == b ? 0 : x.way(next, b, 0)) == way - 1) {
                return l;
            }
        }
        return Due.NONE;
    }

    /** All LINKS below a bound are UNDONE: the greatest bound by which both still hang together. */
    private static int widest(int a, int b) {
        for (int v = 99; v >= 0; v--) {
            LinkedIsles x = made.get();
            int reached = 0;
            for (int l = 0; l < x.told(1); l++) {
                if (x.link(l, 3) - x.link(l, 4) < v) {
                    x.undoLink(l);
                } else if (x.link(l, 3) - x.link(l, 4) == v) {
                    reached++;
                }
            }
            if (reached > 0 && (x.together(a) >> b & 1) != 0) {
                return v;
            }
        }
        return Due.NONE;
    }

    private static void alone() {
        int parts = made.get().parts(0);
        int alone = 0;
        for (int l = 0; l < made.get().told(1); l++) {
            LinkedIsles x = made.get();
            if (x.undoLink(l) >= 0 && x.parts(0) > parts) {
                alone |= 1 << l;
            }
        }
        is("5: ALONE", alone, made.get().told(8));
    }

    /** Each pair is HEARD of, either way: the LINKS that are UNDONE to find out, and none. */
    private static void traitors() {
        int islands = made.get().told(0);
        for (int a = 0; a < islands; a++) {
            for (int b = 0; b < islands; b++) {
                if (a != b) {
                    int hanging = made.get().together(a) >> b & 1;
                    int fits = hanging == 1 ? 1024 : 0;
                    int others = hanging == 1 ? 0 : 1024;
                    for (int l = 0; l < made.get().told(1); l++) {
                        LinkedIsles x = made.get();
                        if (x.undoLink(l) >= 0) {
                            boolean still = (x.together(a) >> b & 1) == 1;
                            fits |= still ? 1 << l : 0;
                            others |= still ? 0 : 1 << l;
                        }
                    }
                    LinkedIsles yes = made.get();
                    yes.hear(a, b, true);
                    is("33: " + a + " and " + b + " hang together", fits, yes.traitor());
                    LinkedIsles no = made.get();
                    no.hear(a, b, false);
                    is("33: " + a + " and " + b + " do not", others, no.traitor());
                }
            }
        }
    }

    /** All sets of LINKS that are DONE UP, the fewest first, of like ones the least. */
    private static List<Integer> sets() {
        int up = made.get().told(7);
        List<Integer> all = new ArrayList<>();
        for (int set = 0; set <= up; set++) {
            if ((set & ~up) == 0) {
                all.add(set);
            }
        }
        all.sort((p, q) -> Integer.bitCount(p) != Integer.bitCount(q) ? Integer.bitCount(p) - Integer.bitCount(q) : p - q);
        return all;
    }

    private static LinkedIsles without(int set) {
        LinkedIsles x = made.get();
        for (int l = 0; l < x.told(1); l++) {
            if ((set >> l & 1) != 0) {
                x.undoLink(l);
            }
        }
        return x;
    }

    private static void cuts() {
        int islands = made.get().told(0);
        int[][] due = new int[islands][islands];
        int left = islands * (islands - 1);
        for (int[] row : due) {
            java.util.Arrays.fill(row, Due.NONE);
        }
        for (int set : sets()) {
            LinkedIsles x = without(set);
            for (int a = 0; a < islands && left > 0; a++) {
                for (int b = 0; b < islands; b++) {
                    if (a != b && due[a][b] == Due.NONE && (x.together(a) >> b & 1) == 0) {
                        due[a][b] = set;
                        left--;
                    }
                }
            }
            if (left == 0) {
                break;
            }
        }
        LinkedIsles x = made.get();
        for (int a = 0; a < islands; a++) {
            for (int b = 0; b < islands; b++) {
                if (a != b) {
                    is("23: between(" + a + ", " + b + ", 0)", Integer.bitCount(due[a][b]), x.between(a, b, 0));
                    is("23: between(" + a + ", " + b + ", 1)", due[a][b], x.between(a, b, 1));
                }
            }
        }
    }

    private static void turned() {
        int best = 0;
        int least = 99;
        for (int set : sets()) {
            LinkedIsles x = made.get();
            for (int l = 0; l < x.told(1); l++) {
                if ((set >> l & 1) != 0) {
                    x.turn(l);
                }
            }
            int clashes = Integer.bitCount(x.told(9));
            best = clashes < least ? set : best;
            least = Math.min(clashes, least);
        }
        is("28: agree(0)", least, made.get().agree(0));
        is("28: agree(1)", best, made.get().agree(1));
    }

    private static void mended(int n) {
        int due = Due.NONE;
        for (int set : sets()) {
            LinkedIsles x = made.get();
            int parts = x.parts(0);
            x.earn(99);
            for (int l = 0; l < x.told(1); l++) {
                if ((set >> l & 1) != 0) {
                    x.mend(l);
                }
            }
            x.hour(n);
            if (x.parts(0) <= parts) {
                due = set;
                break;
            }
        }
        is("27: keepUp(" + n + ", 0)", due == Due.NONE ? due : Integer.bitCount(due), made.get().keepUp(n, 0));
        is("27: keepUp(" + n + ", 1)", due, made.get().keepUp(n, 1));
    }
}
