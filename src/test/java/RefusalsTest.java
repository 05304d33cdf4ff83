import java.util.function.Supplier;
import java.util.function.ToIntFunction;

/**
 * 'What is refused changes nothing', 'nothing changes by it': two objects are made alike, one of them is called besides, and both
 * are then taken apart: what is told, each deed undone, both images, what the rest of the text says.
 */
public final class RefusalsTest {
    private static final Due DUE = new Due("RefusalsTest");
    private static final int LEAST = -2147483647 - 1, MOST = 2147483647;
    private static final String WHOLE = "s8;l0 1 0 99 1 2;l1 2 1 98 3 4;l2 3 2 97 5 6;l3 4 3 96 7 8;l4 5 0 9 9 0;"
        + "l5 6 1 99 1 1;l6 7 2 99 2 2;l7 0 3 99 3 3;l0 4 0 5 4 4;l2 6 3 99 5 5;w4,7,2,0,9,1,1,3,5,6,8,2;";

    private static String place;
    private static Supplier<LinkedIsles> made;
    private static String untouched;

    public static void main(String[] args) {
        in("a new object", LinkedIsles::new);
        noSea();
        in("no sea, a seed, an image, half a text", RefusalsTest::bare);
        noSea();
        in("a sea just told", () -> Due.isles(WHOLE));
        ofNumbers(8, 10);
        ofImages();
        ofNothingDone();
        tried();
        in("all there can be", RefusalsTest::busy);
        ofNumbers(8, 10);
        ofFull();
        tried();
        in("the fewest there can be", () -> Due.isles("s2;l1 0 3 1 0 0;"));
        ofNumbers(2, 1);
        ofImages();
        ofNothingDone();
        in("hours above 90000", RefusalsTest::late);
        ofLate();
        inOrder();
        DUE.end();
    }

    private static void in(String name, Supplier<LinkedIsles> how) {
        place = name;
        made = how;
        untouched = apart(how.get());
    }

    private static LinkedIsles bare() {
        LinkedIsles x = new LinkedIsles();
        x.seed(5);
        x.keep(1);
        x.seed(6);
        Due.feed(x, "s2;x");
        x.sea();
        Due.feed(x, "s2;l0");
        return x;
    }

    private static LinkedIsles busy() {
        LinkedIsles x = Due.isles(WHOLE);
        x.seed(77);
        x.hour(2);
        x.turn(3);
        x.hold(9, true);
        x.keep(0);
        x.drift(3);
        x.mend(4);
        x.keep(1);
        x.hour(19);
        x.mend(1);
        x.turn(9);
        x.hold(3, true);
        x.undoLink(6);
        x.doUp(6);
        x.undoLink(7);
        x.mend(2);
        x.drift(9);
        for (int i = 0; i < 6; i++) {
            x.hear(i, i + 1, i != 2);
        }
        for (int i = 0; i < 20; i++) {
            x.write(i % 10, i < 5 ? x.link(i, 5) : i % 2);
        }
        Due.feed(x, "s3;x");
        x.sea();
        Due.feed(x, "s3;l0 1 0 9 1 1;" + " ".repeat(221) + "w3;");
        return x;
    }

    private static LinkedIsles late() {
        LinkedIsles x = Due.isles("s2;l0 1 0 9 1 1;");
        for (int i = 0; i <= 3000; i++) {
            x.hour(30);
        }
        return x;
    }

    /** Takes an object apart: all that it holds comes to be seen. */
    private static String apart(LinkedIsles x) {
        StringBuilder s = new StringBuilder(Due.all(x));
        s.append(' ').append(x.ask());
        for (int i = 0; i < 31; i++) {
            s.append('\n').append(x.undo(1)).append(": ").append(Due.all(x));
        }
        for (int i = 0; i < 2; i++) {
            s.append('\n').append(x.goBack(i)).append(": ").append(Due.all(x));
        }
        s.append('\n').append(x.tear());
        s.append('\n').append(x.sea()).append(' ').append(x.fault()).append(": ").append(Due.all(x));
        return s.toString();
    }

    private static void leaves(String call, ToIntFunction<LinkedIsles> how) {
        LinkedIsles x = made.get();
        how.applyAsInt(x);
        DUE.is(place + ": " + call + " changes nothing", 1, untouched.equals(apart(x)) ? 1 : 0);
    }

    private static void refused(String call, int due, ToIntFunction<LinkedIsles> how) {
        DUE.is(place + ": " + call, due, how.applyAsInt(made.get()));
        leaves(call, how);
    }

    private static void unknown(String call, ToIntFunction<LinkedIsles> how) {
        refused(call, Due.UNKNOWN, how);
    }

    private static void outside(String call, ToIntFunction<LinkedIsles> how) {
        refused(call, Due.OUTSIDE, how);
    }

    private static void not(String call, ToIntFunction<LinkedIsles> how) {
        refused(call, Due.NOT, how);
    }

    private static void full(String call, ToIntFunction<LinkedIsles> how) {
        refused(call, Due.FULL, how);
    }

    /** No ISLAND and no LINK is there; what is refused for it, and what is refused for its number first. */
    private static void noSea() {
        ofIsland(-1);
        ofIsland(0);
        ofIsland(1);
        ofLink(-1);
        ofLink(0);
        ofCalls();
        int[] hours = {1, 30};
        for (int n : hours) {
            not("hour(" + n + ")", x -> x.hour(n));
            not("drift(" + n + ")", x -> x.drift(n));
            not("undo(" + n + ")", x -> x.undo(n));
        }
        not("wind(0)", x -> x.wind(0));
        not("wind(60)", x -> x.wind(60));
        not("earn(1)", x -> x.earn(1));
        not("earn(99)", x -> x.earn(99));
        not("goBack(0)", x -> x.goBack(0));
    }

    private static void ofNumbers(int islands, int links) {
        int[] not = {-1, islands, LEAST, MOST};
        for (int a : not) {
            ofIsland(a);
        }
        int[] noLink = {-1, links, LEAST, MOST};
        for (int l : noLink) {
            ofLink(l);
        }
        ofTwice(0);
        ofTwice(islands - 1);
        int[] whats = {-1, 2, LEAST, MOST};
        for (int what : whats) {
            outside("between(0, 1, " + what + ")", x -> x.between(0, 1, what));
            outside("way(1, 0, " + what + ")", x -> x.way(1, 0, what));
            outside("farthest(0, " + what + ")", x -> x.farthest(0, what));
            outside("write(0, " + what + ")", x -> x.write(0, what));
        }
        int[] ofLink = {-1, 10, LEAST, MOST};
        for (int what : ofLink) {
            outside("link(0, " + what + ")", x -> x.link(0, what));
        }
        ofCalls();
    }

    /** An ISLAND that there is not, with each other number that is asked for being right, and being wrong. */
    private static void ofIsland(int a) {
        for (int what = -1; what <= 2; what++) {
            int w = what;
            unknown("between(" + a + ", 0, " + w + ")", x -> x.between(a, 0, w));
            unknown("between(0, " + a + ", " + w + ")", x -> x.between(0, a, w));
            unknown("way(" + a + ", 1, " + w + ")", x -> x.way(a, 1, w));
            unknown("way(1, " + a + ", " + w + ")", x -> x.way(1, a, w));
            unknown("farthest(" + a + ", " + w + ")", x -> x.farthest(a, w));
        }
        unknown("reads(" + a + ", 0)", x -> x.reads(a, 0));
        unknown("together(" + a + ")", x -> x.together(a));
        unknown("widest(" + a + ", 0)", x -> x.widest(a, 0));
        unknown("widest(0, " + a + ")", x -> x.widest(0, a));
        unknown("hear(" + a + ", 1, true)", x -> x.hear(a, 1, true));
        unknown("hear(1, " + a + ", false)", x -> x.hear(1, a, false));
        ofTwice(a);
    }

    private static void ofTwice(int a) {
        unknown("between(" + a + ", " + a + ", 0)", x -> x.between(a, a, 0));
        unknown("between(" + a + ", " + a + ", 2)", x -> x.between(a, a, 2));
        unknown("way(" + a + ", " + a + ", 1)", x -> x.way(a, a, 1));
        unknown("way(" + a + ", " + a + ", -1)", x -> x.way(a, a, -1));
        unknown("widest(" + a + ", " + a + ")", x -> x.widest(a, a));
        unknown("hear(" + a + ", " + a + ", true)", x -> x.hear(a, a, true));
    }

    private static void ofLink(int l) {
        for (int what = -1; what <= 10; what++) {
            int w = what;
            unknown("link(" + l + ", " + w + ")", x -> x.link(l, w));
        }
        for (int is = -1; is <= 2; is++) {
            int w = is;
            unknown("write(" + l + ", " + w + ")", x -> x.write(l, w));
        }
        unknown("reads(0, " + l + ")", x -> x.reads(0, l));
        unknown("undoLink(" + l + ")", x -> x.undoLink(l));
        unknown("doUp(" + l + ")", x -> x.doUp(l));
        unknown("turn(" + l + ")", x -> x.turn(l));
        unknown("mend(" + l + ")", x -> x.mend(l));
        unknown("hold(" + l + ", true)", x -> x.hold(l, true));
        unknown("hold(" + l + ", false)", x -> x.hold(l, false));
        unknown("lasts(" + l + ")", x -> x.lasts(l));
    }

    /** What is refused wherever it is asked: numbers out of bounds that stand in the document itself. */
    private static void ofCalls() {
        int[] far = {LEAST, MOST};
        for (int n : far) {
            beyond(n, n);
            if (n < 0) {
                outside("seed(" + n + ")", x -> x.seed(n));
            }
        }
        outside("seed(-1)", x -> x.seed(-1));
        outside("feed(-1)", x -> x.feed(-1));
        outside("feed(256)", x -> x.feed(256));
        outside("told(-1)", x -> x.told(-1));
        outside("told(13)", x -> x.told(13));
        outside("hour(0)", x -> x.hour(0));
        outside("hour(31)", x -> x.hour(31));
        outside("drift(0)", x -> x.drift(0));
        outside("drift(31)", x -> x.drift(31));
        outside("undo(0)", x -> x.undo(0));
        outside("undo(31)", x -> x.undo(31));
        outside("earn(0)", x -> x.earn(0));
        outside("earn(100)", x -> x.earn(100));
        outside("first(-1)", x -> x.first(-1));
        outside("first(2)", x -> x.first(2));
        outside("agree(-1)", x -> x.agree(-1));
        outside("agree(2)", x -> x.agree(2));
        ofTried(-1, 61);
        unknown("keep(-1)", x -> x.keep(-1));
        unknown("keep(2)", x -> x.keep(2));
        unknown("goBack(-1)", x -> x.goBack(-1));
        unknown("goBack(2)", x -> x.goBack(2));
    }

    private static void beyond(int n, int m) {
        outside("feed(" + n + ")", x -> x.feed(n));
        outside("told(" + n + ")", x -> x.told(n));
        outside("hour(" + n + ")", x -> x.hour(n));
        outside("drift(" + n + ")", x -> x.drift(n));
        outside("undo(" + n + ")", x -> x.undo(n));
        outside("earn(" + n + ")", x -> x.earn(n));
        outside("first(" + n + ")", x -> x.first(n));
        outside("agree(" + n + ")", x -> x.agree(n));
        unknown("keep(" + n + ")", x -> x.keep(n));
        unknown("goBack(" + n + ")", x -> x.goBack(n));
        ofTried(n, m);
    }

    private static void ofTried(int low, int high) {
        int[] hours = {low, high};
        for (int n : hours) {
            outside("wind(" + n + ")", x -> x.wind(n));
            outside("still(" + n + ")", x -> x.still(n));
            outside("parts(" + n + ")", x -> x.parts(n));
            outside("keepUp(" + n + ", 0)", x -> x.keepUp(n, 0));
            outside("calm(" + n + ", 0)", x -> x.calm(n, 0));
        }
        outside("keepUp(0, -1)", x -> x.keepUp(0, -1));
        outside("keepUp(60, 2)", x -> x.keepUp(60, 2));
        outside("share(-1, 0)", x -> x.share(-1, 0));
        outside("share(100, 1)", x -> x.share(100, 1));
        outside("share(0, -1)", x -> x.share(0, -1));
        outside("share(99, 2)", x -> x.share(99, 2));
        outside("calm(0, -1)", x -> x.calm(0, -1));
        outside("calm(60, 101)", x -> x.calm(60, 101));
    }

    private static void ofImages() {
        not("goBack(0)", x -> x.goBack(0));
        not("goBack(1)", x -> x.goBack(1));
    }

    private static void ofNothingDone() {
        not("undo(1)", x -> x.undo(1));
        not("undo(30)", x -> x.undo(30));
        not("doUp(0)", x -> x.doUp(0));
        if (made.get().link(0, 2) != 3) {
            not("hold(0, true)", x -> x.hold(0, true));
            not("hold(0, false)", x -> x.hold(0, false));
        }
    }

    private static void ofFull() {
        LinkedIsles busy = busy();
        DUE.is("all there can be: letters", 240, busy.told(3));
        DUE.is("all there can be: heard", 6, busy.told(10));
        DUE.is("all there can be: the book", 20, busy.told(11));
        DUE.is("all there can be: deeds", 30, busy.told(12));
        DUE.is("all there can be: no silver", 0, busy.told(5));
        full("feed(0)", x -> x.feed(0));
        full("feed(255)", x -> x.feed(255));
        full("hear(0, 7, true)", x -> x.hear(0, 7, true));
        full("hear(7, 0, false)", x -> x.hear(7, 0, false));
        full("write(0, 0)", x -> x.write(0, 0));
        full("write(9, 1)", x -> x.write(9, 1));
        not("mend(0)", x -> x.mend(0));
        not("mend(9)", x -> x.mend(9));
        not("hold(0, true)", x -> x.hold(0, true));
        not("undoLink(8), broken", x -> x.undoLink(8));
        not("doUp(8), broken", x -> x.doUp(8));
    }

    private static void ofLate() {
        full("hour(1)", x -> x.hour(1));
        full("hour(30)", x -> x.hour(30));
        full("drift(1)", x -> x.drift(1));
        outside("drift(0)", x -> x.drift(0));
    }

    /** 'TRIED from now: nothing changes by it', and nothing by what is only told. */
    private static void tried() {
        for (int what = 0; what <= 12; what++) {
            int w = what;
            leaves("told(" + w + ")", x -> x.told(w));
        }
        for (int what = 0; what <= 1; what++) {
            int w = what;
            leaves("first(" + w + ")", x -> x.first(w));
            leaves("between(0, 4, " + w + ")", x -> x.between(0, 4, w));
            leaves("way(0, 4, " + w + ")", x -> x.way(0, 4, w));
            leaves("farthest(0, " + w + ")", x -> x.farthest(0, w));
            leaves("keepUp(60, " + w + ")", x -> x.keepUp(60, w));
            leaves("keepUp(1, " + w + ")", x -> x.keepUp(1, w));
            leaves("agree(" + w + ")", x -> x.agree(w));
            leaves("share(5, " + w + ")", x -> x.share(5, w));
        }
        for (int l = 0; l < 10; l++) {
            int k = l;
            leaves("lasts(" + k + ")", x -> x.lasts(k));
            leaves("link(" + k + ", " + k + ")", x -> x.link(k, k));
            leaves("reads(0, " + k + ")", x -> x.reads(0, k));
        }
        leaves("wind(60)", x -> x.wind(60));
        leaves("still(60)", x -> x.still(60));
        leaves("parts(60)", x -> x.parts(60));
        leaves("together(0)", x -> x.together(0));
        leaves("widest(0, 7)", x -> x.widest(0, 7));
        leaves("fold(-1)", x -> x.fold(-1));
        leaves("fold(0)", x -> x.fold(0));
        leaves("calm(60, 99)", x -> x.calm(60, 99));
        leaves("traitor()", LinkedIsles::traitor);
        leaves("ask()", LinkedIsles::ask);
        leaves("judge()", LinkedIsles::judge);
        leaves("fault()", LinkedIsles::fault);
    }

    /** REFUSALS that come together: the first in the order UNKNOWN, OUTSIDE, NOT, FULL. */
    private static void inOrder() {
        LinkedIsles busy = busy();
        DUE.is("UNKNOWN and OUTSIDE: link(10, 10)", Due.UNKNOWN, busy.link(10, 10));
        DUE.is("UNKNOWN and OUTSIDE: between(8, 8, 2)", Due.UNKNOWN, busy.between(8, 8, 2));
        DUE.is("UNKNOWN and OUTSIDE: way(0, 0, 2)", Due.UNKNOWN, busy.way(0, 0, 2));
        DUE.is("UNKNOWN and OUTSIDE: farthest(8, 2)", Due.UNKNOWN, busy.farthest(8, 2));
        DUE.is("UNKNOWN, OUTSIDE and FULL: write(10, 2)", Due.UNKNOWN, busy.write(10, 2));
        DUE.is("OUTSIDE and FULL: write(0, 2)", Due.OUTSIDE, busy.write(0, 2));
        DUE.is("OUTSIDE and FULL: feed(256)", Due.OUTSIDE, busy.feed(256));
        DUE.is("UNKNOWN and FULL: hear(8, 0)", Due.UNKNOWN, busy.hear(8, 0, true));
        DUE.is("UNKNOWN and FULL: hear(0, 0)", Due.UNKNOWN, busy.hear(0, 0, true));
        DUE.is("UNKNOWN and NOT: mend(10)", Due.UNKNOWN, busy.mend(10));
        LinkedIsles none = new LinkedIsles();
        DUE.is("OUTSIDE and NOT: wind(61)", Due.OUTSIDE, none.wind(61));
        DUE.is("OUTSIDE and NOT: hour(31)", Due.OUTSIDE, none.hour(31));
        DUE.is("OUTSIDE and NOT: drift(0)", Due.OUTSIDE, none.drift(0));
        DUE.is("OUTSIDE and NOT: earn(100)", Due.OUTSIDE, none.earn(100));
        DUE.is("OUTSIDE and NOT: undo(31)", Due.OUTSIDE, none.undo(31));
        DUE.is("UNKNOWN and NOT: goBack(2)", Due.UNKNOWN, none.goBack(2));
        DUE.is("UNKNOWN and OUTSIDE: write(0, 2) without a SEA", Due.UNKNOWN, none.write(0, 2));
        LinkedIsles late = late();
        DUE.is("OUTSIDE and FULL: hour(31)", Due.OUTSIDE, late.hour(31));
        DUE.is("OUTSIDE and FULL: drift(0)", Due.OUTSIDE, late.drift(0));
    }
}
