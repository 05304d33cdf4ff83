/** Section 3, promises 16, 38 to 40: the edges of the seed, of draws and of images, sentence by sentence. */
public final class ImageEdgesTest {
    private static final Due DUE = new Due("ImageEdgesTest");
    private static final int LEAST = -2147483647 - 1, MOST = 2147483647;
    private static final String TEN = "s8;" + "l0 7 0 99 1 2;".repeat(10);

    public static void main(String[] args) {
        seedBounds();
        seedLeftOver();
        drawsByNumberOfLinks();
        drawUndoes();
        drawDoesUp();
        drawTurns();
        drawOfNothing();
        windBehindDraw();
        driftBounds();
        imageNumbers();
        imagesOfBothKinds();
        imagesKeptOver();
        imagesBehindTexts();
        imagesWithoutSea();
        DUE.end();
    }

    private static long next(long seed) {
        return (seed * 1103515245L + 12345L) % 2147483648L;
    }

    private static long draw(long seed, int n) {
        return seed / 65536 % n;
    }

    /** A SEED from which the first DRAW of 6 is this deed and the next DRAW of so many LINKS is this one. */
    private static int seedFor(int deed, int links, int l) {
        for (int seed = 0; seed < 1000000; seed++) {
            long first = next(seed);
            if (draw(first, 6) == deed && (deed > 2 || draw(next(first), links) == l)) {
                return seed;
            }
        }
        throw new IllegalStateException("no such seed");
    }

    private static void seedBounds() {
        LinkedIsles x = new LinkedIsles();
        DUE.is("38: 0 at first", 0, x.seed(1));
        DUE.is("38: what it was", 1, x.seed(MOST));
        int[] outside = {-1, -2, LEAST, LEAST + 1};
        for (int v : outside) {
            DUE.is("38: seed(" + v + ")", Due.OUTSIDE, x.seed(v));
        }
        DUE.is("38: the most", MOST, x.seed(MOST - 1));
        DUE.is("38: 1 less", MOST - 1, x.seed(0));
        DUE.is("38: the least", 0, x.seed(0));
    }

    private static void seedLeftOver() {
        int[] seeds = {0, 1, 2, 65535, 65536, 1073741823, 1073741824, MOST - 1, MOST};
        for (int seed : seeds) {
            LinkedIsles x = Due.isles("s2;l0 1 0 99 1 1;");
            x.seed(seed);
            x.drift(1);
            long due = next(seed);
            due = draw(due, 6) > 2 ? due : next(due);
            DUE.is("38: THE SEED behind a DRAW from " + seed, due, x.seed(0));
        }
        LinkedIsles y = Due.isles(TEN);
        for (int i = 0; i < 100; i++) {
            y.drift(1);
            int seed = y.seed(0);
            DUE.is("38: THE SEED stays 0 or more", 1, seed >= 0 ? 1 : 0);
            y.seed(seed);
        }
    }

    private static void drawsByNumberOfLinks() {
        for (int links = 1; links <= 10; links++) {
            for (int l = 0; l < links; l++) {
                LinkedIsles x = Due.isles("s2;" + "l0 1 0 99 1 1;".repeat(links));
                x.seed(seedFor(0, links, l));
                DUE.is("16: on 0 the LINK " + l + " of " + links + " is UNDONE", (1 << links) - 1 - (1 << l), x.drift(1));
                x.seed(seedFor(1, links, l));
                DUE.is("16: on 1 it is DONE UP", (1 << links) - 1, x.drift(1));
                x.seed(seedFor(2, links, l));
                x.drift(1);
                DUE.is("16: on 2 it is TURNED", 1, x.link(l, 6));
            }
        }
    }

    private static void drawUndoes() {
        LinkedIsles x = Due.isles("s2;l0 1 0 99 1 1;l0 1 0 99 1 1;w1;");
        x.undoLink(1);
        int seed = seedFor(0, 2, 1);
        x.seed(seed);
        DUE.is("16: what is UNDONE stays so", 1, x.drift(1));
        DUE.is("16: it is drawn for", next(next(seed)), x.seed(0));
        DUE.is("16: it is a deed", 2, x.told(12));
        DUE.is("16: it is not counted as BROKEN", 0, x.told(6));
        DUE.is("16: an HOUR", 1, x.told(4));
    }

    private static void drawDoesUp() {
        LinkedIsles x = Due.isles("s2;l0 1 0 5 1 1;l0 1 0 99 1 1;w5,0;");
        x.hour(1);
        DUE.is("5: 0 BROKE", 2, x.told(7));
        int seed = seedFor(1, 2, 0);
        x.seed(seed);
        DUE.is("16: STRAIN is STRENGTH, it cannot be", 2, x.drift(1));
        DUE.is("16: it is drawn for", next(next(seed)), x.seed(seed));
        x.mend(0);
        x.hour(1);
        DUE.is("16: MENDED, it can be", 3, x.drift(1));
        x.hour(1);
        DUE.is("16: and BREAKS again", 2, x.told(7));
        x.seed(seedFor(1, 2, 1));
        DUE.is("16: what is DONE UP stays so", 2, x.drift(1));
        LinkedIsles y = Due.isles("s2;l0 1 0 6 1 1;w5,0;");
        y.hour(1);
        y.undoLink(0);
        y.seed(seedFor(1, 1, 0));
        DUE.is("16: STRAIN is 1 less, it can be", 1, y.drift(1));
        DUE.is("16: STRAIN stays", 5, y.link(0, 4));
    }

    private static void drawTurns() {
        LinkedIsles x = Due.isles(TEN);
        int seed = seedFor(2, 10, 9);
        for (int i = 1; i <= 4; i++) {
            x.seed(seed);
            x.drift(1);
            DUE.is("16: TURNED, or not any more", i % 2, x.link(9, 6));
        }
        x.undoLink(9);
        x.seed(seed);
        DUE.is("16: what is UNDONE is TURNED, too", 511, x.drift(1));
        DUE.is("16: what is UNDONE is TURNED, too", 1, x.link(9, 6));
    }

    private static void drawOfNothing() {
        for (int deed = 3; deed <= 5; deed++) {
            LinkedIsles x = Due.isles(TEN);
            int seed = seedFor(deed, 10, 0);
            x.seed(seed);
            DUE.is("16: on " + deed + " nothing is done", 1023, x.drift(1));
            DUE.is("16: one DRAW alone", next(seed), x.seed(0));
            DUE.is("16: an HOUR", 1, x.told(4));
            for (int l = 0; l < 10; l++) {
                DUE.is("16: nor TURNED", 0, x.link(l, 6));
            }
        }
    }

    /** The DRAW is ahead of the HOUR: what it undoes is not strained in it, what it does up is. */
    private static void windBehindDraw() {
        LinkedIsles x = Due.isles("s2;l0 1 0 99 1 1;w7;");
        x.seed(seedFor(0, 1, 0));
        x.drift(1);
        DUE.is("16: UNDONE ahead of the HOUR", 0, x.link(0, 4));
        x.seed(seedFor(1, 1, 0));
        x.drift(1);
        DUE.is("16: DONE UP ahead of the HOUR", 7, x.link(0, 4));
        DUE.is("17: undo(1): both are undone", 1, x.undo(1));
        DUE.is("6: UNDONE", 0, x.link(0, 5));
        DUE.is("6: STRAIN", 0, x.link(0, 4));
    }

    private static void driftBounds() {
        for (int n = 1; n <= 30; n++) {
            LinkedIsles x = Due.isles(TEN + "w3,1;");
            LinkedIsles y = Due.isles(TEN + "w3,1;");
            int one = 0;
            for (int i = 0; i < n; i++) {
                one = y.drift(1);
            }
            DUE.is("16: drift(" + n + ") is so many of drift(1)", one, x.drift(n));
            DUE.unchanged("16: drift(" + n + ") for so many of drift(1)", Due.all(y), x);
            DUE.is("16: each is a deed", n, x.told(12));
            int seed = x.seed(0);
            x.seed(seed);
            DUE.is("17: undo(" + n + ")", 0, x.undo(n));
            DUE.is("17: THE SEED stays", seed, x.seed(0));
        }
        LinkedIsles x = Due.isles(TEN);
        int[] outside = {0, -1, 31, LEAST, MOST};
        for (int n : outside) {
            DUE.is("16: drift(" + n + ")", Due.OUTSIDE, x.drift(n));
            DUE.is("9: hour(" + n + ")", Due.OUTSIDE, x.hour(n));
            DUE.is("16: drift(" + n + ") without a SEA", Due.OUTSIDE, new LinkedIsles().drift(n));
            DUE.is("9: hour(" + n + ") without a SEA", Due.OUTSIDE, new LinkedIsles().hour(n));
        }
        DUE.is("16: no DRAW", 0, x.seed(0));
        DUE.is("16: no HOUR", 0, x.told(4));
        DUE.is("16: drift(30) without a SEA", Due.NOT, new LinkedIsles().drift(30));
        DUE.is("9: hour(30) without a SEA", Due.NOT, new LinkedIsles().hour(30));
    }

    private static void imageNumbers() {
        LinkedIsles x = Due.isles(TEN);
        int[] unknown = {-1, 2, 3, 32, 33, LEAST, MOST};
        for (int i : unknown) {
            DUE.is("39: keep(" + i + ")", Due.UNKNOWN, x.keep(i));
            DUE.is("40: goBack(" + i + ")", Due.UNKNOWN, x.goBack(i));
        }
        DUE.is("40: goBack(0), not kept", Due.NOT, x.goBack(0));
        DUE.is("40: goBack(1), not kept", Due.NOT, x.goBack(1));
        DUE.is("39: keep(1)", 1, x.keep(1));
        DUE.is("40: goBack(0), not kept", Due.NOT, x.goBack(0));
        DUE.is("40: goBack(1)", 1, x.goBack(1));
        DUE.is("39: keep(0)", 1, x.keep(0));
        DUE.is("40: goBack(0)", 1, x.goBack(0));
        DUE.is("40: goBack(1)", 1, x.goBack(1));
        DUE.is("40: goBack(2), UNKNOWN", Due.UNKNOWN, x.goBack(2));
    }

    private static void imagesOfBothKinds() {
        LinkedIsles x = Due.isles("s8;" + "l0 7 3 99 1 2;".repeat(10) + "w7,1;");
        x.keep(0);
        String first = Due.all(x);
        for (int l = 0; l < 10; l++) {
            x.hold(l, l % 2 == 0);
            x.turn(l);
        }
        x.hour(30);
        x.mend(9);
        x.doUp(9);
        x.earn(99);
        x.seed(MOST);
        DUE.is("39: keep(1)", 1, x.keep(1));
        String second = Due.all(x);
        DUE.is("5: something BROKE", 1, x.told(6) > 0 ? 1 : 0);
        for (int i = 0; i < 3; i++) {
            DUE.is("40: goBack(0)", 1, x.goBack(0));
            DUE.unchanged("40: IMAGE 0", first, x);
            x.drift(7);
            DUE.is("40: goBack(1)", 1, x.goBack(1));
            DUE.unchanged("40: IMAGE 1", second, x);
            x.drift(7);
            x.seed(i);
        }
    }

    private static void imagesKeptOver() {
        LinkedIsles x = Due.isles("s2;l0 1 0 99 1 1;w1;");
        for (int n = 1; n <= 5; n++) {
            x.hour(1);
            x.seed(100 * n);
            x.keep(0);
            x.hour(3);
            x.seed(7);
            x.goBack(0);
            DUE.is("39: the latest", n, x.told(4));
            DUE.is("39: its SEED", 100 * n, x.seed(100 * n));
            DUE.is("39: its STRAIN", n, x.link(0, 4));
            DUE.is("40: nothing can be undone", 0, x.told(12));
        }
        DUE.is("39: keep() leaves THE SEED", 500, x.seed(500));
        DUE.is("40: the other was never kept", Due.NOT, x.goBack(1));
    }

    private static void imagesBehindTexts() {
        LinkedIsles x = Due.isles("s2;l0 1 0 99 1 1;w1;");
        x.hour(2);
        x.keep(0);
        x.keep(1);
        Due.feed(x, "s9;");
        x.sea();
        DUE.is("3: a FAULT leaves IMAGE 0", 1, x.goBack(0));
        DUE.is("3: a FAULT leaves IMAGE 1", 1, x.goBack(1));
        Due.feed(x, "s2;l0 1 0 99 1 1;w1;");
        x.sea();
        DUE.is("3: IMAGE 0 is gone", Due.NOT, x.goBack(0));
        DUE.is("3: IMAGE 1 is gone", Due.NOT, x.goBack(1));
        DUE.is("40: what is refused changes nothing", 0, x.told(4));
        x.keep(1);
        x.sea();
        DUE.is("3: an empty text, IMAGE 1 is gone", Due.NOT, x.goBack(1));
    }

    private static void imagesWithoutSea() {
        LinkedIsles x = new LinkedIsles();
        DUE.is("40: goBack(0)", Due.NOT, x.goBack(0));
        DUE.is("40: goBack(2)", Due.UNKNOWN, x.goBack(2));
        DUE.is("39: keep(2)", Due.UNKNOWN, x.keep(2));
        x.seed(5);
        DUE.is("39: keep(1)", 1, x.keep(1));
        x.seed(6);
        DUE.is("40: goBack(1)", 1, x.goBack(1));
        DUE.is("40: THE SEED", 5, x.seed(5));
        for (int what = 0; what <= 12; what++) {
            DUE.is("5: told(" + what + ")", 0, x.told(what));
        }
        Due.feed(x, "s2;");
        x.sea();
        DUE.is("3: IMAGES are gone", Due.NOT, x.goBack(1));
        DUE.is("3: SILVER", 3, x.told(5));
    }
}
