/** Section 3, promises 18 to 31: the edges of what is tried from now, sentence by sentence. */
public final class TriedEdgesTest {
    private static final Due DUE = new Due("TriedEdgesTest");
    private static final int LEAST = -2147483647 - 1, MOST = 2147483647;
    private static final String ROW = "s8;l0 1 0 99 1 1;l1 2 0 99 1 1;l2 3 0 99 1 1;l3 4 0 99 1 1;l4 5 0 99 1 1;l5 6 0 99 1 1;l6 7 0 99 1 1;";
    private static final String STAR = "s8;l0 1 0 99 1 1;l0 2 0 99 1 1;l0 3 0 99 1 1;l4 0 0 99 1 1;l5 0 0 99 1 1;l6 0 0 99 1 1;l7 0 0 99 1 1;";
    private static final String RING = "s8;l0 1 0 99 1 1;l1 2 0 99 1 1;l2 3 0 99 1 1;l3 4 0 99 1 1;l4 5 0 99 1 1;l5 6 0 99 1 1;l6 7 0 99 1 1;l7 0 0 99 1 1;";
    /** One of STRAIN each tenth HOUR, the first behind 10: STRENGTH 20 BREAKS behind 200. */
    private static final String TENTH = "w0,0,0,0,0,0,0,0,0,1;";

    public static void main(String[] args) {
        lasting();
        breakingFirst();
        still();
        parts();
        together();
        alone();
        between();
        betweenOfLikeOnes();
        ways();
        widest();
        farthest();
        keepNow();
        keepBounds();
        keepHeld();
        keepOfLikeOnes();
        agree();
        agreeOfLikeOnes();
        agreeByAll();
        fold();
        foldOfOneAtLeast();
        share();
        calm();
        withoutSea();
        DUE.end();
    }

    private static void outside(String call, int got) {
        DUE.is(call, Due.OUTSIDE, got);
    }

    private static void unknown(String call, int got) {
        DUE.is(call, Due.UNKNOWN, got);
    }

    private static void lasting() {
        LinkedIsles x = Due.isles("s2;l0 1 0 1 0 0;l0 1 0 2 0 0;l0 1 0 99 0 0;w1;");
        DUE.is("18: the next HOUR", 1, x.lasts(0));
        DUE.is("18: the one behind it", 2, x.lasts(1));
        DUE.is("18: 99 of them", 99, x.lasts(2));
        x.hour(1);
        DUE.is("18: what BROKE is UNDONE", Due.NONE, x.lasts(0));
        DUE.is("18: from now", 1, x.lasts(1));
        DUE.is("18: from now", 98, x.lasts(2));
        x.undoLink(2);
        DUE.is("18: UNDONE by hand", Due.NONE, x.lasts(2));
        unknown("18: lasts(3)", x.lasts(3));
        unknown("18: lasts(-1)", x.lasts(-1));
        unknown("18: lasts(least)", x.lasts(LEAST));
        unknown("18: lasts(most)", x.lasts(MOST));
        LinkedIsles y = Due.isles("s2;l0 1 0 20 0 0;l0 1 3 20 0 0;l0 1 0 21 0 0;" + TENTH);
        DUE.is("18: behind 200", 200, y.lasts(0));
        DUE.is("18: a stud behind 200", 200, y.lasts(1));
        DUE.is("18: behind 210", Due.NONE, y.lasts(2));
        y.hold(1, true);
        DUE.is("18: HELD, it lasts", Due.NONE, y.lasts(1));
        y.hour(9);
        DUE.is("18: behind 201", Due.NONE, y.lasts(2));
        y.hour(1);
        DUE.is("18: behind 200 from HOUR 10", 200, y.lasts(2));
        y.mend(0);
        DUE.is("18: MENDED, behind 200 again", 200, y.lasts(0));
    }

    private static void breakingFirst() {
        LinkedIsles x = Due.isles("s2;l0 1 0 21 0 0;l0 1 0 20 0 0;l0 1 0 20 0 0;" + TENTH);
        DUE.is("19: of one HOUR the least", 1, x.first(0));
        DUE.is("19: behind 200", 200, x.first(1));
        x.undoLink(1);
        DUE.is("19: the other", 2, x.first(0));
        x.undoLink(2);
        DUE.is("19: behind 210", Due.NONE, x.first(0));
        DUE.is("19: behind 210", Due.NONE, x.first(1));
        x.hour(9);
        DUE.is("19: behind 201", Due.NONE, x.first(0));
        DUE.is("19: behind 201", Due.NONE, x.first(1));
        x.hour(1);
        DUE.is("19: behind 200 from HOUR 10", 0, x.first(0));
        DUE.is("19: behind 200 from HOUR 10", 200, x.first(1));
        x.undoLink(0);
        DUE.is("19: none is DONE UP", Due.NONE, x.first(0));
        DUE.is("19: none is DONE UP", Due.NONE, x.first(1));
        LinkedIsles y = Due.isles("s2;" + "l0 1 0 9 0 0;".repeat(9) + "l0 1 0 8 0 0;w4;");
        DUE.is("19: the tenth", 9, y.first(0));
        DUE.is("19: behind 2", 2, y.first(1));
        y.hour(2);
        DUE.is("19: the first of nine", 0, y.first(0));
        DUE.is("19: behind 1", 1, y.first(1));
        int[] whats = {-1, 2, LEAST, MOST};
        for (int what : whats) {
            outside("19: first(" + what + ")", y.first(what));
        }
    }

    private static void still() {
        LinkedIsles x = Due.isles("s2;l0 1 0 60 0 0;l0 1 0 61 0 0;l0 1 0 59 0 0;w1;");
        DUE.is("20: still(0), as now", 7, x.still(0));
        DUE.is("20: still(58)", 7, x.still(58));
        DUE.is("20: still(59)", 3, x.still(59));
        DUE.is("20: still(60)", 2, x.still(60));
        int[] ns = {-1, 61, LEAST, MOST};
        for (int n : ns) {
            outside("20: still(" + n + ")", x.still(n));
            outside("21: parts(" + n + ")", x.parts(n));
        }
        x.hour(1);
        DUE.is("20: from now", 0, x.still(60));
        DUE.is("20: from now", 2, x.still(59));
        DUE.is("2: HOURS stay", 1, x.told(4));
        DUE.is("2: STRAIN stays", 1, x.link(0, 4));
        DUE.is("2: nothing BROKE", 0, x.told(6));
        DUE.is("20: still(0) of ten", 1023, Due.isles("s2;" + "l0 1 0 9 0 0;".repeat(10)).still(0));
    }

    private static void parts() {
        LinkedIsles x = Due.isles("s4;l0 1 0 60 0 0;l1 2 0 61 0 0;l2 3 0 59 0 0;w1;");
        DUE.is("21: parts(0)", 1, x.parts(0));
        DUE.is("21: parts(58)", 1, x.parts(58));
        DUE.is("21: parts(59)", 2, x.parts(59));
        DUE.is("21: parts(60)", 3, x.parts(60));
        for (int n = 2; n <= 8; n++) {
            DUE.is("21: no LINKS", n, Due.isles("s" + n + ";").parts(0));
            DUE.is("21: no LINKS, 60 HOURS", n, Due.isles("s" + n + ";").parts(60));
            DUE.is("21: one LINK", n - 1, Due.isles("s" + n + ";l0 " + (n - 1) + " 0 9 0 0;").parts(0));
        }
        DUE.is("21: a row of eight", 1, Due.isles(ROW).parts(0));
        LinkedIsles ring = Due.isles(RING);
        ring.undoLink(7);
        DUE.is("21: a ring without one", 1, ring.parts(0));
        ring.undoLink(3);
        DUE.is("21: a ring without two", 2, ring.parts(0));
    }

    private static void together() {
        LinkedIsles x = Due.isles(ROW);
        for (int a = 0; a < 8; a++) {
            DUE.is("22: together(" + a + ") in a row", 255, x.together(a));
        }
        for (int l = 0; l < 7; l++) {
            x.undoLink(l);
            DUE.is("22: itself alone", 1 << l, x.together(l));
            DUE.is("22: and the others", 255 & ~((1 << l + 1) - 1), x.together(7));
        }
        int[] as = {-1, 8, LEAST, MOST, 32, -32};
        for (int a : as) {
            unknown("22: together(" + a + ")", x.together(a));
        }
    }

    private static void alone() {
        LinkedIsles row = Due.isles(ROW);
        DUE.is("5: ALONE in a row: all", 127, row.told(8));
        row.undoLink(3);
        DUE.is("5: what is UNDONE is not ALONE", 127 - 8, row.told(8));
        LinkedIsles ring = Due.isles(RING);
        DUE.is("5: ALONE in a ring: none", 0, ring.told(8));
        ring.undoLink(0);
        DUE.is("5: ALONE in what is left: all", 254, ring.told(8));
        DUE.is("5: no LINKS", 0, Due.isles("s8;").told(8));
        LinkedIsles ten = Due.isles("s8;" + "l0 1 0 9 0 0;".repeat(9) + "l6 7 0 9 0 0;");
        DUE.is("5: the tenth", 512, ten.told(8));
        for (int l = 0; l < 8; l++) {
            ten.undoLink(l);
        }
        DUE.is("5: the last of nine, too", 512 + 256, ten.told(8));
    }

    private static void between() {
        for (int count = 0; count <= 10; count++) {
            LinkedIsles x = Due.isles("s2;" + "l0 1 0 9 0 0;".repeat(count));
            DUE.is("23: how many of " + count, count, x.between(0, 1, 0));
            DUE.is("23: which of " + count, (1 << count) - 1, x.between(1, 0, 1));
        }
        LinkedIsles x = Due.isles(STAR);
        DUE.is("23: between(6, 7, 0)", 1, x.between(6, 7, 0));
        DUE.is("23: between(6, 7, 1), the least of two", 32, x.between(6, 7, 1));
        x.undoLink(5);
        DUE.is("23: nothing is to be UNDONE", 0, x.between(6, 7, 0));
        DUE.is("23: the empty SET", 0, x.between(6, 7, 1));
        int[] whats = {-1, 2, LEAST, MOST};
        for (int what : whats) {
            outside("23: between(0, 1, " + what + ")", x.between(0, 1, what));
            outside("24: way(0, 1, " + what + ")", x.way(0, 1, what));
            outside("26: farthest(0, " + what + ")", x.farthest(0, what));
            unknown("23: between(0, 8, " + what + "), the first", x.between(0, 8, what));
            unknown("23: between(3, 3, " + what + "), the first", x.between(3, 3, what));
            unknown("24: way(8, 0, " + what + "), the first", x.way(8, 0, what));
            unknown("24: way(7, 7, " + what + "), the first", x.way(7, 7, what));
            unknown("26: farthest(8, " + what + "), the first", x.farthest(8, what));
        }
        pairsThatAreNot(x);
    }

    private static void pairsThatAreNot(LinkedIsles x) {
        int[] not = {-1, 8, LEAST, MOST};
        for (int a : not) {
            unknown("23: between(" + a + ", 0, 0)", x.between(a, 0, 0));
            unknown("23: between(0, " + a + ", 1)", x.between(0, a, 1));
            unknown("24: way(" + a + ", 0, 0)", x.way(a, 0, 0));
            unknown("24: way(0, " + a + ", 1)", x.way(0, a, 1));
            unknown("25: widest(" + a + ", 0)", x.widest(a, 0));
            unknown("25: widest(0, " + a + ")", x.widest(0, a));
            unknown("25: widest(" + a + ", " + a + ")", x.widest(a, a));
            unknown("26: farthest(" + a + ", 0)", x.farthest(a, 0));
            unknown("32: hear(" + a + ", 0)", x.hear(a, 0, true));
            unknown("32: hear(0, " + a + ")", x.hear(0, a, false));
        }
        for (int a = 0; a < 8; a++) {
            unknown("23: one twice", x.between(a, a, 0));
            unknown("24: one twice", x.way(a, a, 1));
            unknown("25: one twice", x.widest(a, a));
            unknown("32: one twice", x.hear(a, a, true));
        }
        DUE.is("32: nothing was HEARD", 0, x.told(10));
    }

    private static void betweenOfLikeOnes() {
        // From 0 to 3 by 1 and by 2: one LINK of 0, 3 and one of 1, 2. The least SET is that of 0 and 1.
        LinkedIsles x = Due.isles("s4;l0 1 0 9 0 0;l0 2 0 9 0 0;l2 3 0 9 0 0;l1 3 0 9 0 0;");
        DUE.is("23: two", 2, x.between(0, 3, 0));
        DUE.is("23: the least of four SETS", 3, x.between(3, 0, 1));
        // One LINK alone goes ahead of two that are a lesser SET.
        LinkedIsles y = Due.isles("s3;l0 1 0 9 0 0;l0 1 0 9 0 0;l1 2 0 9 0 0;");
        DUE.is("23: fewest first", 4, y.between(0, 2, 1));
        // 1 and 2 (6) are a lesser SET than 0 and 3 (9), though 0 is the least LINK.
        LinkedIsles z = Due.isles("s4;l0 1 0 9 0 0;l2 3 0 9 0 0;l2 3 0 9 0 0;l0 1 0 9 0 0;l1 2 0 9 0 0;l1 2 0 9 0 0;l1 2 0 9 0 0;");
        DUE.is("23: the least SET", 6, z.between(0, 3, 1));
    }

    private static void ways() {
        LinkedIsles x = Due.isles(ROW);
        for (int a = 0; a < 8; a++) {
            for (int b = 0; b < 8; b++) {
                if (a != b) {
                    DUE.is("24: way(" + a + ", " + b + ", 0)", Math.abs(a - b), x.way(a, b, 0));
                    DUE.is("24: way(" + a + ", " + b + ", 1)", a < b ? a : a - 1, x.way(a, b, 1));
                }
            }
        }
        x.undoLink(6);
        DUE.is("24: none", Due.NONE, x.way(0, 7, 0));
        DUE.is("24: none", Due.NONE, x.way(0, 7, 1));
        DUE.is("24: none", Due.NONE, x.way(7, 6, 1));
        LinkedIsles ring = Due.isles(RING);
        DUE.is("24: half around", 4, ring.way(0, 4, 0));
        DUE.is("24: of like ones the least", 0, ring.way(0, 4, 1));
        DUE.is("24: of like ones the least", 3, ring.way(4, 0, 1));
        DUE.is("24: the shorter one, though its LINK is greater", 7, ring.way(0, 5, 1));
        LinkedIsles twins = Due.isles("s2;" + "l0 1 0 9 0 0;".repeat(10));
        for (int l = 0; l < 9; l++) {
            DUE.is("24: of twins the least", l, twins.way(1, 0, 1));
            twins.undoLink(l);
        }
        DUE.is("24: the tenth", 9, twins.way(1, 0, 1));
        DUE.is("24: one LINK", 1, twins.way(1, 0, 0));
    }

    private static void widest() {
        LinkedIsles x = Due.isles("s3;l0 1 0 99 0 0;l1 2 0 1 0 0;w1;");
        DUE.is("25: the most", 99, x.widest(0, 1));
        DUE.is("25: the least", 1, x.widest(1, 2));
        DUE.is("25: the least of both", 1, x.widest(0, 2));
        DUE.is("25: and back", 1, x.widest(2, 0));
        x.hour(1);
        DUE.is("25: 1 less", 98, x.widest(0, 1));
        DUE.is("25: what BROKE is no way", Due.NONE, x.widest(1, 2));
        DUE.is("25: nor a part of one", Due.NONE, x.widest(0, 2));
        x.hour(30);
        x.hour(30);
        x.hour(30);
        x.hour(7);
        DUE.is("25: 1 is left", 1, x.widest(1, 0));
        LinkedIsles y = Due.isles("s8;l0 1 0 9 0 0;l1 7 0 30 0 0;l0 2 0 10 0 0;l2 7 0 11 0 0;l0 7 0 8 0 0;");
        DUE.is("25: the longer one is wider", 10, y.widest(0, 7));
        y.undoLink(2);
        DUE.is("25: and without it", 9, y.widest(7, 0));
        y.undoLink(1);
        DUE.is("25: and without that", 8, y.widest(7, 0));
        y.undoLink(4);
        DUE.is("25: none", Due.NONE, y.widest(7, 0));
        DUE.is("25: no LINKS", Due.NONE, Due.isles("s2;").widest(0, 1));
    }

    private static void farthest() {
        LinkedIsles row = Due.isles(ROW);
        for (int a = 0; a < 8; a++) {
            DUE.is("26: farthest(" + a + ", 0) in a row", a < 4 ? 7 : 0, row.farthest(a, 0));
            DUE.is("26: farthest(" + a + ", 1) in a row", Math.max(a, 7 - a), row.farthest(a, 1));
        }
        row.undoLink(6);
        DUE.is("26: alone, itself", 7, row.farthest(7, 0));
        DUE.is("26: alone, no way", 0, row.farthest(7, 1));
        DUE.is("26: of two that are 3 away the least", 0, row.farthest(3, 0));
        LinkedIsles star = Due.isles(STAR);
        DUE.is("26: of seven the least", 1, star.farthest(0, 0));
        DUE.is("26: of seven the least, how far", 1, star.farthest(0, 1));
        DUE.is("26: of six the least", 2, star.farthest(1, 0));
        DUE.is("26: of six the least", 1, star.farthest(7, 0));
        DUE.is("26: how far", 2, star.farthest(7, 1));
    }

    private static void keepNow() {
        LinkedIsles x = Due.isles("s3;l0 1 0 5 0 0;l1 2 0 5 0 0;w5;");
        DUE.is("27: behind 0, none", 0, x.keepUp(0, 0));
        DUE.is("27: behind 0, the empty SET", 0, x.keepUp(0, 1));
        DUE.is("27: behind 1 both BREAK though they are MENDED", Due.NONE, x.keepUp(1, 0));
        DUE.is("27: behind 1 both BREAK though they are MENDED", Due.NONE, x.keepUp(1, 1));
        x.hour(1);
        DUE.is("27: all is parted now, no more PARTS can be", 0, x.keepUp(60, 0));
        DUE.is("27: all is parted now, no more PARTS can be", 0, x.keepUp(60, 1));
        DUE.is("27: no LINKS", 0, Due.isles("s8;w9;").keepUp(60, 0));
        int[] ns = {-1, 61, LEAST, MOST};
        for (int n : ns) {
            outside("27: keepUp(" + n + ", 0)", x.keepUp(n, 0));
            outside("27: keepUp(0, " + (n == 61 ? 2 : n) + ")", x.keepUp(0, n == 61 ? 2 : n));
        }
    }

    private static void keepBounds() {
        LinkedIsles x = Due.isles("s2;l0 1 0 61 0 0;w1;");
        DUE.is("27: behind 60 it holds", 0, x.keepUp(60, 0));
        x.hour(1);
        DUE.is("27: behind 59 it holds", 0, x.keepUp(59, 0));
        DUE.is("27: behind 60 it is to be MENDED", 1, x.keepUp(60, 0));
        DUE.is("27: behind 60 it is to be MENDED", 1, x.keepUp(60, 1));
        DUE.is("27: nothing is MENDED by that", 1, x.link(0, 4));
        DUE.is("27: nor SILVER spent", 3, x.told(5));
        LinkedIsles y = Due.isles("s2;l0 1 0 60 0 0;w1;");
        DUE.is("27: behind 59 it holds", 0, y.keepUp(59, 0));
        DUE.is("27: behind 60 it BREAKS though it is MENDED", Due.NONE, y.keepUp(60, 0));
        LinkedIsles ten = Due.isles("s8;l0 1 0 9 0 0;l1 2 0 9 0 0;l2 3 0 9 0 0;l3 4 0 9 0 0;l4 5 0 9 0 0;l5 6 0 9 0 0;l6 7 0 9 0 0;l7 0 0 9 0 0;l0 4 0 9 0 0;l1 5 0 9 0 0;w5;");
        ten.hour(1);
        DUE.is("27: seven keep eight together, SILVER or not", 7, ten.keepUp(1, 0));
        // Bits 0 .. 6 are the row itself: the least SET that has all.
        DUE.is("27: the least SET of seven", 127, ten.keepUp(1, 1));
    }

    /** A stud that is MENDED goes on as it is: by 3 an HOUR while it is HELD, by 6 if not. */
    private static void keepHeld() {
        LinkedIsles x = Due.isles("s2;l0 1 3 10 0 0;w6;");
        x.hold(0, true);
        x.hour(2);
        DUE.is("27: HELD, it holds for 1", 0, x.keepUp(1, 1));
        DUE.is("27: HELD and MENDED, it holds for 3", 1, x.keepUp(3, 1));
        DUE.is("27: HELD and MENDED, it BREAKS behind 4", Due.NONE, x.keepUp(4, 1));
        x.hold(0, false);
        DUE.is("27: MENDED, it holds for 1", 1, x.keepUp(1, 1));
        DUE.is("27: MENDED, it BREAKS behind 2", Due.NONE, x.keepUp(2, 1));
    }

    private static void keepOfLikeOnes() {
        // Three LINKS between two: 0 cannot be kept, of 1 and 2 the least.
        LinkedIsles x = Due.isles("s2;l0 1 0 6 0 0;l0 1 0 13 0 0;l0 1 0 13 0 0;w5;");
        x.hour(1);
        DUE.is("27: all hold or are not needed", 0, x.keepUp(1, 0));
        x.hour(1);
        DUE.is("27: of like ones the least", 2, x.keepUp(1, 1));
        DUE.is("27: one", 1, x.keepUp(2, 0));
        DUE.is("27: none holds behind 3", Due.NONE, x.keepUp(3, 0));
        x.undoLink(1);
        DUE.is("27: what is UNDONE is not MENDED", 4, x.keepUp(1, 1));
        x.undoLink(2);
        DUE.is("27: parted as it is", 0, x.keepUp(1, 1));
        LinkedIsles y = Due.isles("s3;l0 1 0 9 0 0;l0 2 0 9 0 0;l1 2 0 99 0 0;l0 1 3 9 0 0;w4;");
        y.hour(2);
        DUE.is("27: 1 and 2 hold by themselves", 1, y.keepUp(1, 0));
        DUE.is("27: the least of those that bring 0 to them", 1, y.keepUp(1, 1));
    }

    private static void agree() {
        LinkedIsles x = Due.isles("s3;l0 1 0 9 1 1;l1 2 0 9 1 1;");
        DUE.is("28: none CLASHES", 0, x.agree(0));
        DUE.is("28: none is TURNED", 0, x.agree(1));
        DUE.is("28: no LINKS", 0, Due.isles("s2;").agree(0));
        DUE.is("28: no LINKS", 0, Due.isles("s2;").agree(1));
        int[] whats = {-1, 2, LEAST, MOST};
        for (int what : whats) {
            outside("28: agree(" + what + ")", x.agree(what));
        }
        // A ring of three, each LINK 1 2: one way round each READS 2 and 1; one of them CLASHES at least.
        LinkedIsles ring = Due.isles("s3;l0 1 0 9 1 2;l1 2 0 9 1 2;l2 0 0 9 1 2;");
        DUE.is("28: all CLASH", 7, ring.told(9));
        DUE.is("28: one is left", 1, ring.agree(0));
        DUE.is("28: one TURNED is enough, the least", 1, ring.agree(1));
        ring.undoLink(0);
        DUE.is("28: what is UNDONE is not TURNED", 2, ring.agree(1));
        DUE.is("28: none is left", 0, ring.agree(0));
        DUE.is("28: nothing is TURNED by that", 0, ring.link(1, 6));
        LinkedIsles never = Due.isles("s2;l0 1 0 9 1 1;l0 1 0 9 2 2;");
        DUE.is("28: no turning helps", 2, never.agree(0));
        DUE.is("28: so none is TURNED", 0, never.agree(1));
    }

    private static void agreeOfLikeOnes() {
        // The tenth alone, or the nine others.
        LinkedIsles x = Due.isles("s2;" + "l0 1 0 9 1 2;".repeat(9) + "l0 1 0 9 2 1;");
        DUE.is("28: the fewest", 512, x.agree(1));
        x.turn(9);
        DUE.is("28: TURNED, all READ alike", 0, x.agree(1));
        for (int l = 0; l < 5; l++) {
            x.turn(l);
        }
        DUE.is("28: five of ten: those that are, or are not, TURNED; the least", 31, x.agree(1));
        x.turn(4);
        DUE.is("28: TURNED ones go back: four are fewer than six", 15, x.agree(1));
        for (int l = 4; l < 9; l++) {
            x.turn(l);
        }
        DUE.is("28: the one that is not", 512, x.agree(1));
        x.undoLink(9);
        DUE.is("28: it is UNDONE", 0, x.agree(1));
    }

    /** Where 0 READS one number of all LINKS only if all of them are TURNED. */
    private static void agreeByAll() {
        LinkedIsles two = Due.isles("s3;l0 1 0 9 5 1;l0 2 0 9 6 1;");
        DUE.is("28: both are TURNED", 0, two.agree(0));
        DUE.is("28: both are TURNED", 3, two.agree(1));
        two.turn(0);
        DUE.is("28: the other is TURNED", 2, two.agree(1));
        LinkedIsles ten = Due.isles("s8;l0 1 0 9 2 1;l0 1 0 9 2 1;l0 2 0 9 3 1;l0 2 0 9 3 1;l0 3 0 9 4 1;l0 3 0 9 4 1;"
            + "l0 4 0 9 5 1;l0 5 0 9 6 1;l0 6 0 9 7 1;l0 7 0 9 8 1;");
        DUE.is("28: 0 alone CLASHES", 1, ten.told(9));
        DUE.is("28: all ten are TURNED", 0, ten.agree(0));
        DUE.is("28: all ten are TURNED", 1023, ten.agree(1));
        ten.undoLink(9);
        DUE.is("28: all nine are TURNED", 511, ten.agree(1));
    }

    private static void fold() {
        LinkedIsles x = Due.isles(STAR);
        DUE.is("29: pairs of seven", 21, x.fold(Due.NONE));
        int i = 0;
        for (int a = 1; a < 8; a++) {
            for (int b = a + 1; b < 8; b++) {
                DUE.is("29: fold(" + i + ")", 10 * a + b, x.fold(i));
                i++;
            }
        }
        int[] beyond = {21, 22, MOST, -2, LEAST};
        for (int n : beyond) {
            DUE.is("29: fold(" + n + ")", Due.NONE, x.fold(n));
        }
        x.undoLink(6);
        DUE.is("29: pairs of six", 15, x.fold(Due.NONE));
        DUE.is("29: the last", 56, x.fold(14));
        DUE.is("29: behind it", Due.NONE, x.fold(15));
    }

    private static void foldOfOneAtLeast() {
        DUE.is("29: no LINKS at all", 0, Due.isles("s8;").fold(Due.NONE));
        DUE.is("29: no LINKS at all", Due.NONE, Due.isles("s8;").fold(0));
        LinkedIsles pair = Due.isles("s4;l0 1 0 9 0 0;");
        DUE.is("29: to one another alone", 0, pair.fold(Due.NONE));
        LinkedIsles three = Due.isles("s3;l0 1 0 9 0 0;l1 2 0 9 0 0;l2 0 0 9 0 0;");
        DUE.is("29: three that all are linked", 3, three.fold(Due.NONE));
        three.undoLink(1);
        DUE.is("29: 1 and 2 have 0", 1, three.fold(Due.NONE));
        DUE.is("29: 1 and 2 have 0", 12, three.fold(0));
        LinkedIsles row = Due.isles("s4;l0 1 0 9 0 0;l1 2 0 9 0 0;l2 3 0 9 0 0;");
        DUE.is("29: in a row of four none is just the same", 0, row.fold(Due.NONE));
        LinkedIsles twins = Due.isles("s3;l0 1 0 9 0 0;l1 0 0 9 0 0;l1 2 0 9 0 0;");
        DUE.is("29: twice to one is once to it", 2, twins.fold(0));
        LinkedIsles last = Due.isles("s8;l6 5 0 9 0 0;l5 7 0 9 0 0;");
        DUE.is("29: the last pair", 67, last.fold(0));
        DUE.is("29: the last pair alone", 1, last.fold(Due.NONE));
    }

    private static void share() {
        LinkedIsles x = Due.isles("s2;l0 1 2 99 0 0;l0 1 0 99 0 0;l0 1 1 99 0 0;l0 1 3 99 0 0;l0 1 0 99 0 0;w7;");
        x.hold(3, true);
        x.hour(1);
        // STRAIN 3, 7, 14, 4, 7: the order is 2, 1, 4, 3, 0.
        int[] due = {0, 4, 6, 22, 30, 31, 31, 31};
        for (int n = 0; n < due.length; n++) {
            DUE.is("30: share(" + n + ", 1)", due[n], x.share(n, 1));
            DUE.is("30: share(" + n + ", 0)", Math.max(0, n - 5), x.share(n, 0));
        }
        DUE.is("30: share(99, 0)", 94, x.share(99, 0));
        DUE.is("30: share(99, 1)", 31, x.share(99, 1));
        x.undoLink(2);
        DUE.is("30: what is UNDONE gets none", 2, x.share(1, 1));
        DUE.is("30: and all but it", 27, x.share(99, 1));
        DUE.is("30: and that is left over", 95, x.share(99, 0));
        int[] ns = {-1, 100, LEAST, MOST};
        for (int n : ns) {
            outside("30: share(" + n + ", 0)", x.share(n, 0));
            outside("30: share(0, " + (n == 100 ? 2 : n) + ")", x.share(0, n == 100 ? 2 : n));
        }
        DUE.is("30: no STRAIN is given back", 7, x.link(1, 4));
        LinkedIsles none = Due.isles("s2;");
        DUE.is("30: no LINKS, all is left over", 99, none.share(99, 0));
        DUE.is("30: no LINKS, none gets 1", 0, none.share(99, 1));
    }

    private static void calm() {
        LinkedIsles x = Due.isles("s2;");
        for (int q = 0; q <= 100; q++) {
            DUE.is("31: calm(0, " + q + ")", 1000000000, x.calm(0, q));
            DUE.is("31: calm(1, " + q + ")", 10000000 * q, x.calm(1, q));
            long odds = 1000000000;
            for (int n = 0; n < 60; n++) {
                odds = odds * q / 100;
            }
            DUE.is("31: calm(60, " + q + ")", odds, x.calm(60, q));
        }
        DUE.is("31: calm(4, 1)", 10, x.calm(4, 1));
        DUE.is("31: calm(5, 1), cut", 0, x.calm(5, 1));
        DUE.is("31: calm(29, 50)", 1, x.calm(29, 50));
        DUE.is("31: calm(30, 50), cut", 0, x.calm(30, 50));
        DUE.is("31: calm(5, 99), not cut yet", 950990049, x.calm(5, 99));
        DUE.is("31: calm(6, 99), cut", 941480148, x.calm(6, 99));
        int[] ns = {-1, 61, LEAST, MOST};
        for (int n : ns) {
            outside("31: calm(" + n + ", 50)", x.calm(n, 50));
            outside("31: calm(1, " + (n == 61 ? 101 : n) + ")", x.calm(1, n == 61 ? 101 : n));
            outside("31: calm(" + n + ", 101)", x.calm(n, 101));
        }
    }

    private static void withoutSea() {
        LinkedIsles x = new LinkedIsles();
        unknown("18: lasts(0)", x.lasts(0));
        DUE.is("19: first(0)", Due.NONE, x.first(0));
        DUE.is("19: first(1)", Due.NONE, x.first(1));
        DUE.is("20: still(0)", 0, x.still(0));
        DUE.is("20: still(60)", 0, x.still(60));
        DUE.is("21: parts(60)", 0, x.parts(60));
        unknown("22: together(0)", x.together(0));
        unknown("23: between(0, 1, 0)", x.between(0, 1, 0));
        unknown("24: way(0, 1, 0)", x.way(0, 1, 0));
        unknown("25: widest(0, 1)", x.widest(0, 1));
        unknown("26: farthest(0, 0)", x.farthest(0, 0));
        DUE.is("27: keepUp(0, 1)", 0, x.keepUp(0, 1));
        DUE.is("28: agree(1)", 0, x.agree(1));
        DUE.is("29: fold(0)", Due.NONE, x.fold(0));
        DUE.is("30: share(99, 0)", 99, x.share(99, 0));
        DUE.is("30: share(99, 1)", 0, x.share(99, 1));
        outside("19: first(2)", x.first(2));
        outside("20: still(61)", x.still(61));
        outside("21: parts(-1)", x.parts(-1));
        outside("27: keepUp(61, 0)", x.keepUp(61, 0));
        outside("28: agree(2)", x.agree(2));
        outside("30: share(100, 0)", x.share(100, 0));
        outside("31: calm(61, 0)", x.calm(61, 0));
    }
}
