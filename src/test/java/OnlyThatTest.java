import java.util.Map;
import java.util.TreeMap;
import java.util.function.ToIntFunction;

/**
 * What a call does is what it says, and nothing else: ahead of each call an object holds something of all there is (half a text, a
 * fault, links of each kind that are turned, held, strained, undone; deeds, images, what was heard, a book, a seed), and behind it all
 * that can be seen is looked at, with the numbers that the call changes told one by one.
 */
public final class OnlyThatTest {
    private static final Due DUE = new Due("OnlyThatTest");
    private static final String WHOLE = "s8;l0 1 0 99 1 2;l1 2 1 98 3 4;l2 3 2 97 5 6;l3 4 3 96 7 8;l4 5 0 13 9 0;"
        + "l5 6 1 99 1 1;l6 7 2 99 2 2;l7 0 3 14 3 3;l0 4 0 99 4 4;l2 6 3 99 5 5;w4,7,2,0,9,1,1,3,5,6,8,2;";
    private static final int ALL = 1023, NONE_WAS = 1024;
    /** How many deeds busy() has done since its latest image. */
    private static final int DEEDS = 8;

    public static void main(String[] args) {
        asItStands();
        hours();
        hoursByDraws();
        byHand();
        mended();
        heldAndEarned();
        undone();
        letters();
        heardAndWritten();
        torn();
        seeded();
        kept();
        wentBack();
        faultyText();
        newSea();
        emptySea();
        sharedByStrain();
        DUE.end();
    }

    /** Winds 4 and 7 have blown, the next ones are 2, 0, 9. */
    private static LinkedIsles busy() {
        LinkedIsles x = Due.isles(WHOLE);
        x.seed(5);
        x.hour(1);
        int[] turned = {1, 3, 4, 7, 9};
        for (int l : turned) {
            x.turn(l);
        }
        x.hold(3, true);
        x.hold(7, true);
        x.hold(9, true);
        x.keep(0);
        x.seed(6);
        x.turn(0);
        x.earn(2);
        x.keep(1);
        x.seed(77);
        x.hour(1);
        x.undoLink(9);
        x.undoLink(8);
        x.undoLink(0);
        x.mend(2);
        x.mend(8);
        x.turn(8);
        x.turn(6);
        x.hear(1, 4, true);
        x.hear(3, 5, false);
        x.write(0, 0);
        x.write(9, 0);
        x.write(4, 1);
        x.write(1, 0);
        Due.feed(x, "s3;x");
        x.sea();
        Due.feed(x, "s3;l0 1 0 9 1 1");
        return x;
    }

    /** All numbers that can be seen without a change, by their names. */
    private static Map<String, Integer> seen(LinkedIsles x) {
        Map<String, Integer> all = new TreeMap<>();
        int[] whats = {0, 1, 2, 3, 4, 5, 6, 7, 10, 11, 12};
        for (int what : whats) {
            all.put("told " + what, x.told(what));
        }
        for (int l = 0; l < x.told(1); l++) {
            for (int what = 0; what <= 9; what++) {
                all.put("link " + l + " " + what, x.link(l, what));
            }
        }
        int seed = x.seed(0);
        x.seed(seed);
        all.put("seed", seed);
        all.put("fault", x.fault());
        all.put("traitor", x.traitor());
        all.put("judge", x.judge());
        return all;
    }

    /** What is seen only by taking an object apart: the deeds that can be undone, the images, how much was heard, the rest of the text. */
    private static String log(LinkedIsles x) {
        StringBuilder s = new StringBuilder();
        for (int i = 0; i < 31; i++) {
            s.append(x.undo(1)).append(' ').append(seen(x)).append('\n');
        }
        return s.toString();
    }

    private static String images(LinkedIsles x) {
        StringBuilder s = new StringBuilder();
        for (int i = 0; i < 2; i++) {
            s.append(x.goBack(i)).append(' ').append(seen(x)).append('\n');
        }
        return s.toString();
    }

    private static String rest(LinkedIsles x) {
        int had = x.tear();
        return had + " " + x.sea() + " " + x.fault();
    }

    private static void same(String what, Object due, Object got) {
        if (!due.equals(got)) {
            System.out.println("due: " + due + "\ngot: " + got);
        }
        DUE.is(what, 1, due.equals(got) ? 1 : 0);
    }

    private static LinkedIsles behind(ToIntFunction<LinkedIsles> call) {
        LinkedIsles x = busy();
        call.applyAsInt(x);
        return x;
    }

    /** The call answers so, and of all numbers that can be seen these are others: a name, its number, the next name. */
    private static void changes(String name, ToIntFunction<LinkedIsles> call, int answer, Object... others) {
        Map<String, Integer> due = seen(busy());
        for (int i = 0; i + 1 < others.length; i += 2) {
            due.put((String) others[i], (Integer) others[i + 1]);
        }
        LinkedIsles x = busy();
        DUE.is(name, answer, call.applyAsInt(x));
        Map<String, Integer> got = seen(x);
        for (Map.Entry<String, Integer> e : due.entrySet()) {
            DUE.is(name + ", then " + e.getKey(), e.getValue(), got.getOrDefault(e.getKey(), Due.UNKNOWN));
        }
        DUE.is(name + ", then how many numbers there are", due.size(), got.size());
    }

    /** A deed leaves images, what was heard and the text; undone again, it leaves all, but for THE SEED. */
    private static void deed(String name, int times, ToIntFunction<LinkedIsles> call) {
        same(name + " leaves the images", images(busy()), images(behind(call)));
        LinkedIsles x = behind(call);
        x.undo(times);
        x.seed(77);
        same(name + " undone, all is seen as it was", seen(busy()), seen(x));
        same(name + " undone, the deeds ahead of it are there", log(busy()), log(x));
        x = behind(call);
        x.undo(times);
        x.seed(77);
        same(name + " leaves what was heard, and the text", rest(busy()), rest(x));
    }

    private static void asItStands() {
        LinkedIsles x = busy();
        int[] strain = {11, 14, 0, 8, 11, 14, 5, 8, 0, 8};
        int[] turned = {1, 1, 0, 1, 1, 0, 1, 1, 1, 1};
        for (int l = 0; l < 10; l++) {
            DUE.is("STRAIN of " + l, strain[l], x.link(l, 4));
            DUE.is("TURNED: " + l, turned[l], x.link(l, 6));
            DUE.is("HELD: " + l, l == 3 || l == 7 || l == 9 ? 1 : 0, x.link(l, 7));
        }
        DUE.is("LINKS that are DONE UP", ALL - 1 - 256 - 512, x.told(7));
        DUE.is("deeds that can be undone", DEEDS, x.told(12));
        DUE.is("SILVER", 3, x.told(5));
        DUE.is("TRAITOR", 16, x.traitor());
        DUE.is("WRONG", 3, x.judge());
        DUE.is("the fault", 3, x.fault());
        DUE.is("letters", 15, x.told(3));
        DUE.is("the next WIND", 2, x.wind(0));
    }

    private static void hours() {
        int up = ALL - 1 - 256 - 512;
        // Without 4, which parts 3 from 5, one of 5, 6, 7 or none was UNDONE: 1 hangs together with 4.
        changes("9: hour(1)", x -> x.hour(1), up - 16, "told 4", 3, "told 6", 1, "told 7", up - 16, "told 12", DEEDS + 1,
            "link 2 4", 1, "link 4 4", 13, "link 4 5", 0, "link 6 4", 6, "traitor", NONE_WAS + 32 + 64 + 128, "judge", 2);
        changes("9: hour(3)", x -> x.hour(3), up - 16 - 128, "told 4", 5, "told 6", 2, "told 7", up - 16 - 128, "told 12", DEEDS + 3,
            "link 1 4", 32, "link 2 4", 5, "link 3 4", 14, "link 4 4", 13, "link 4 5", 0, "link 5 4", 32, "link 6 4", 10,
            "link 7 4", 14, "link 7 5", 0, "traitor", NONE_WAS + 32 + 64, "judge", 2);
        deed("9: hour(1)", 1, x -> x.hour(1));
        deed("9: hour(3)", 3, x -> x.hour(3));
    }

    private static long next(long seed) {
        return (seed * 1103515245L + 12345L) % 2147483648L;
    }

    /** A SEED from which the DRAW of 6 is this deed and, up to 2, the DRAW of ten LINKS is this one. */
    private static int seedFor(int deed, int l) {
        for (int seed = 0; seed < 1000000; seed++) {
            long first = next(seed);
            if (first / 65536 % 6 == deed && (deed > 2 || next(first) / 65536 % 10 == l)) {
                return seed;
            }
        }
        throw new IllegalStateException("no such seed");
    }

    private static int drift(LinkedIsles x, int seed) {
        x.seed(seed);
        return x.drift(1);
    }

    /** Each with the HOUR of WIND 2 behind it, which breaks LINK 4. */
    private static void drawn(String name, int deed, int l, int up, Object... others) {
        int seed = seedFor(deed, l);
        int behind = (int) (deed > 2 ? next(seed) : next(next(seed)));
        Object[] all = new Object[others.length + 20];
        Object[] hour = {"told 4", 3, "told 6", 1, "told 7", up, "told 12", DEEDS + 1, "link 2 4", 1, "link 4 4", 13, "link 4 5", 0,
            "link 6 4", 6, "judge", 2, "seed", behind};
        System.arraycopy(hour, 0, all, 0, 20);
        System.arraycopy(others, 0, all, 20, others.length);
        changes("16: " + name, x -> drift(x, seed), up, all);
        deed("16: " + name, 1, x -> drift(x, seed));
    }

    private static void hoursByDraws() {
        int up = ALL - 1 - 256 - 512 - 16;
        int any = NONE_WAS + 32 + 64 + 128;
        drawn("on 0 a HELD one is UNDONE", 0, 3, up - 8, "link 3 5", 0, "traitor", 0);
        drawn("on 0 one that is UNDONE", 0, 9, up, "traitor", any);
        // 3 comes to 5 by 2, 9, 5 then, and 1 to 4 by 1, 2, 3.
        drawn("on 1 a HELD one is DONE UP", 1, 9, up + 512, "link 9 5", 1, "judge", 1, "traitor", 32 + 512);
        drawn("on 1 one that is DONE UP", 1, 3, up, "traitor", any);
        drawn("on 2 a HELD one is TURNED", 2, 3, up, "link 3 6", 0, "traitor", any);
        drawn("on 2 one that is UNDONE is TURNED", 2, 9, up, "link 9 6", 0, "traitor", any);
        drawn("on 3 nothing", 3, 0, up, "traitor", any);
    }

    private static void byHand() {
        int up = ALL - 1 - 256 - 512;
        changes("10: undoLink(3)", x -> x.undoLink(3), 6, "told 7", up - 8, "told 12", DEEDS + 1, "link 3 5", 0, "traitor", 0);
        changes("10: undoLink(5)", x -> x.undoLink(5), 6, "told 7", up - 32, "told 12", DEEDS + 1, "link 5 5", 0);
        changes("11: doUp(9)", x -> x.doUp(9), 8, "told 7", up + 512, "told 12", DEEDS + 1, "link 9 5", 1, "judge", 1, "traitor", 0);
        changes("11: doUp(0)", x -> x.doUp(0), 8, "told 7", up + 1, "told 12", DEEDS + 1, "link 0 5", 1, "judge", 0, "traitor", 0);
        changes("12: turn(3)", x -> x.turn(3), 0, "told 12", DEEDS + 1, "link 3 6", 0);
        changes("12: turn(5)", x -> x.turn(5), 1, "told 12", DEEDS + 1, "link 5 6", 1);
        changes("12: turn(9)", x -> x.turn(9), 0, "told 12", DEEDS + 1, "link 9 6", 0);
        deed("10: undoLink(3)", 1, x -> x.undoLink(3));
        deed("11: doUp(9)", 1, x -> x.doUp(9));
        deed("12: turn(3)", 1, x -> x.turn(3));
        deed("12: turn(9)", 1, x -> x.turn(9));
    }

    private static void mended() {
        changes("13: mend(3)", x -> x.mend(3), 2, "told 5", 2, "told 12", DEEDS + 1, "link 3 4", 0);
        changes("13: mend(9), UNDONE", x -> x.mend(9), 2, "told 5", 2, "told 12", DEEDS + 1, "link 9 4", 0);
        changes("13: mend(2), without STRAIN", x -> x.mend(2), 2, "told 5", 2, "told 12", DEEDS + 1);
        deed("13: mend(3)", 1, x -> x.mend(3));
        deed("13: mend(9)", 1, x -> x.mend(9));
        deed("13: mend(2)", 1, x -> x.mend(2));
    }

    private static void heldAndEarned() {
        changes("14: hold(3, false)", x -> x.hold(3, false), 1, "told 12", DEEDS + 1, "link 3 7", 0);
        changes("14: hold(3, true)", x -> x.hold(3, true), 1, "told 12", DEEDS + 1);
        changes("14: hold(9, false), UNDONE", x -> x.hold(9, false), 1, "told 12", DEEDS + 1, "link 9 7", 0);
        changes("15: earn(5)", x -> x.earn(5), 8, "told 5", 8, "told 12", DEEDS + 1);
        changes("15: earn(99)", x -> x.earn(99), 99, "told 5", 99, "told 12", DEEDS + 1);
        deed("14: hold(3, false)", 1, x -> x.hold(3, false));
        deed("14: hold(3, true)", 1, x -> x.hold(3, true));
        deed("15: earn(5)", 1, x -> x.earn(5));
        deed("15: earn(99)", 1, x -> x.earn(99));
    }

    private static void undone() {
        changes("17: undo(2)", x -> x.undo(2), 2, "told 12", DEEDS - 2, "link 6 6", 0, "link 8 6", 0);
        changes("17: undo(4)", x -> x.undo(4), 2, "told 5", 5, "told 12", DEEDS - 4, "link 6 6", 0, "link 8 6", 0, "link 8 4", 11,
            "link 2 4", 5);
        changes("17: undo(8)", x -> x.undo(8), 1, "told 4", 1, "told 5", 5, "told 7", ALL, "told 12", 0, "link 6 6", 0, "link 8 6", 0,
            "link 0 4", 4, "link 0 5", 1, "link 1 4", 0, "link 2 4", 2, "link 3 4", 4, "link 4 4", 4, "link 5 4", 0, "link 6 4", 2,
            "link 7 4", 4, "link 8 4", 4, "link 8 5", 1, "link 9 4", 4, "link 9 5", 1, "judge", 0, "traitor", 0);
        same("17: undo(3) leaves the images", images(busy()), images(behind(x -> x.undo(3))));
        same("17: undo(2) leaves what was heard, and the text", rest(busy()), rest(behind(x -> x.undo(2))));
    }

    private static void letters() {
        changes("2: feed(';')", x -> x.feed(';'), 16, "told 3", 16);
        changes("2: feed(255)", x -> x.feed(255), 16, "told 3", 16);
        LinkedIsles x = busy();
        x.feed(';');
        same("2: feed() leaves the deeds", log(busy()).replace("told 3=15", "told 3=16"), log(x));
        x = behind(y -> y.feed(';'));
        same("2: feed() leaves the images", images(busy()).replace("told 3=15", "told 3=16"), images(x));
        x = behind(y -> y.feed(';'));
        DUE.is("2: feed() leaves what was heard", 6, x.tear());
        DUE.is("3: and the text is whole by it", 1, x.sea());
        DUE.is("3: and has no fault", Due.NONE, x.fault());
    }

    /** Of what is told in all of these rows, the one number is another. */
    private static void others(String name, ToIntFunction<LinkedIsles> call, String key, int was, int is) {
        String from = key + "=" + was;
        String to = key + "=" + is;
        same(name + " leaves the deeds", log(busy()).replace(from, to), log(behind(call)));
        same(name + " leaves the images", images(busy()).replace(from, to), images(behind(call)));
    }

    private static String withoutHad(LinkedIsles x) {
        String s = rest(x);
        return s.substring(s.indexOf(' '));
    }

    private static void heardAndWritten() {
        changes("32: hear(0, 7, true)", x -> x.hear(0, 7, true), 3, "told 10", 3);
        changes("32: hear(5, 4, true)", x -> x.hear(5, 4, true), 3, "told 10", 3, "traitor", 0);
        changes("35: write(8, 0)", x -> x.write(8, 0), 5, "told 11", 5);
        changes("35: write(8, 1)", x -> x.write(8, 1), 5, "told 11", 5);
        others("32: hear(0, 7, true)", x -> x.hear(0, 7, true), "told 10", 2, 3);
        others("35: write(8, 1)", x -> x.write(8, 1), "told 11", 4, 5);
        same("32: hear() leaves the book and the text", withoutHad(busy()), withoutHad(behind(x -> x.hear(0, 7, true))));
        same("35: write() leaves the text", withoutHad(busy()), withoutHad(behind(x -> x.write(8, 1))));
        DUE.is("37: one more was heard", 7, behind(x -> x.hear(0, 7, true)).tear());
        DUE.is("37: one more was written", 7, behind(x -> x.write(8, 1)).tear());
    }

    private static void torn() {
        int up = ALL - 1 - 256 - 512;
        changes("37: tear()", LinkedIsles::tear, 6, "told 10", 0, "told 11", 0, "traitor", NONE_WAS + up, "judge", Due.NONE);
        LinkedIsles x = behind(LinkedIsles::tear);
        for (int n = 0; n < DEEDS; n++) {
            DUE.is("37: tear() leaves the deeds", n < DEEDS - 1 ? 2 : 1, x.undo(1));
        }
        DUE.is("37: tear() leaves IMAGE 0", 1, x.goBack(0));
        DUE.is("37: and its SEED", 5, x.seed(5));
        DUE.is("37: tear() leaves IMAGE 1", 1, x.goBack(1));
        DUE.is("37: and its SEED", 6, x.seed(6));
        x.feed(';');
        DUE.is("37: tear() leaves the text", 1, x.sea());
    }

    private static void seeded() {
        changes("38: seed(8)", x -> x.seed(8), 77, "seed", 8);
        changes("38: seed(2147483647)", x -> x.seed(2147483647), 77, "seed", 2147483647);
        same("38: seed() leaves the deeds", log(busy()).replace("seed=77", "seed=8"), log(behind(x -> x.seed(8))));
        same("38: seed() leaves the images", images(busy()), images(behind(x -> x.seed(8))));
        same("38: seed() leaves what was heard, and the text", rest(busy()), rest(behind(x -> x.seed(8))));
    }

    private static void kept() {
        changes("39: keep(0)", x -> x.keep(0), 1, "told 12", 0);
        changes("39: keep(1)", x -> x.keep(1), 1, "told 12", 0);
        same("39: keep() leaves what was heard, and the text", rest(busy()), rest(behind(x -> x.keep(0))));
        LinkedIsles x = behind(y -> y.keep(1));
        x.goBack(0);
        LinkedIsles z = behind(y -> y.goBack(0));
        same("39: keep(1) leaves IMAGE 0", seen(z), seen(x));
        x = behind(y -> y.keep(0));
        x.goBack(1);
        z = behind(y -> y.goBack(1));
        same("39: keep(0) leaves IMAGE 1", seen(z), seen(x));
        x.goBack(0);
        Map<String, Integer> due = seen(busy());
        due.put("told 12", 0);
        same("39: IMAGE 0 is what was so", due, seen(x));
    }

    private static void wentBack() {
        changes("40: goBack(0)", x -> x.goBack(0), 1, "told 4", 1, "told 5", 3, "told 7", ALL, "told 12", 0, "link 0 6", 0, "link 6 6", 0, "link 8 6", 0,
            "link 0 4", 4, "link 0 5", 1, "link 1 4", 0, "link 2 4", 2, "link 3 4", 4, "link 4 4", 4, "link 5 4", 0, "link 6 4", 2,
            "link 7 4", 4, "link 8 4", 4, "link 8 5", 1, "link 9 4", 4, "link 9 5", 1, "judge", 0, "traitor", 0, "seed", 5);
        changes("40: goBack(1)", x -> x.goBack(1), 1, "told 4", 1, "told 5", 5, "told 7", ALL, "told 12", 0, "link 6 6", 0, "link 8 6", 0,
            "link 0 4", 4, "link 0 5", 1, "link 1 4", 0, "link 2 4", 2, "link 3 4", 4, "link 4 4", 4, "link 5 4", 0, "link 6 4", 2,
            "link 7 4", 4, "link 8 4", 4, "link 8 5", 1, "link 9 4", 4, "link 9 5", 1, "judge", 0, "traitor", 0, "seed", 6);
        same("40: goBack(1) leaves the images", images(busy()), images(behind(x -> x.goBack(1))));
        same("40: goBack(1) leaves what was heard, and the text", rest(busy()), rest(behind(x -> x.goBack(1))));
    }

    private static void faultyText() {
        changes("3: sea() with a FAULT", LinkedIsles::sea, -11, "told 3", 0, "fault", 15);
        same("3: it leaves the deeds", log(busy()).replace("told 3=15", "told 3=0").replace("fault=3", "fault=15"), log(behind(LinkedIsles::sea)));
        same("3: it leaves the images", images(busy()).replace("told 3=15", "told 3=0").replace("fault=3", "fault=15"), images(behind(LinkedIsles::sea)));
        LinkedIsles x = behind(LinkedIsles::sea);
        DUE.is("3: it leaves what was heard", 6, x.tear());
        Due.feed(x, "s4;");
        DUE.is("3: nothing is left of its text", 0, x.sea());
        DUE.is("3: but the new one", 4, x.told(0));
    }

    /** Behind a text without a FAULT nothing is left of what was, but for THE SEED. */
    private static void newSea() {
        LinkedIsles x = busy();
        x.feed(';');
        DUE.is("3: sea()", 1, x.sea());
        LinkedIsles fresh = Due.isles("s3;l0 1 0 9 1 1;");
        fresh.seed(77);
        same("3: a new SEA, as by a new object", seen(fresh), seen(x));
        same("3: no deed can be undone", log(fresh), log(x));
        same("3: no IMAGE is there", images(fresh), images(x));
        same("3: nothing was heard", rest(fresh), rest(x));
        Due.feed(x, WHOLE);
        Due.feed(fresh, WHOLE);
        DUE.is("3: the same SEA again", fresh.sea(), x.sea());
        same("3: the same SEA again", seen(fresh), seen(x));
    }

    private static void emptySea() {
        LinkedIsles x = busy();
        x.sea();
        DUE.is("3: an empty text", 0, x.sea());
        LinkedIsles fresh = new LinkedIsles();
        fresh.seed(77);
        same("3: no SEA, as in a new object", seen(fresh), seen(x));
        same("3: no deed can be undone", log(fresh), log(x));
        same("3: no IMAGE is there", images(fresh), images(x));
        same("3: nothing was heard", rest(fresh), rest(x));
    }

    /** The most STRAIN goes first, not what is nearest to breaking. */
    private static void sharedByStrain() {
        LinkedIsles x = Due.isles("s2;l0 1 2 4 0 0;l0 1 0 99 0 0;l0 1 3 8 0 0;w7;");
        x.hold(2, true);
        x.hour(1);
        // STRAIN 3 of 4, 7 of 99, 4 of 8.
        DUE.is("30: share(1, 1)", 2, x.share(1, 1));
        DUE.is("30: share(2, 1)", 6, x.share(2, 1));
        DUE.is("30: share(3, 1)", 7, x.share(3, 1));
    }
}
