/** Promises 18 to 31: what is tried from now. */
public final class TriedTest {
    private static final Due DUE = new Due("TriedTest");
    /** A ring of 0, 1, 2 with a tail 2, 3, 4 and an island 5 alone. */
    private static final String RING = "s6;l0 1 0 20 3 3;l1 2 1 12 3 4;l2 0 2 9 5 3;l2 3 3 15 4 4;l3 4 0 30 1 2;w4,7,2;";

    public static void main(String[] args) {
        lasting();
        breakingFirst();
        stillDoneUp();
        partsOfAll();
        hangingTogether();
        cuts();
        manyCuts();
        ways();
        widestWays();
        farthestIslands();
        keptUp();
        keptUpNow();
        agreed();
        agreedByFewest();
        folded();
        shared();
        calmHours();
        nothingChanges();
        DUE.end();
    }

    private static void lasting() {
        LinkedIsles x = Due.isles(RING);
        // Gold 4, 11, 13, 17, 24: the 5th; silk 0, 14: the 2nd; a chain 2, 5, 6, 8, 11: the 5th; a stud 4, 11, 13, 17: the 4th.
        DUE.is("18: lasts(0)", 5, x.lasts(0));
        DUE.is("18: lasts(1)", 2, x.lasts(1));
        DUE.is("18: lasts(2)", 5, x.lasts(2));
        DUE.is("18: lasts(3)", 4, x.lasts(3));
        x.hold(3, true);
        // Held: 1, 5, 5, 6, 10, 10, 11, 15: the 8th.
        DUE.is("18: lasts(3), held", 8, x.lasts(3));
        x.hour(1);
        DUE.is("18: lasts(0) from hour 1", 4, x.lasts(0));
        x.undoLink(0);
        DUE.is("18: lasts(0), undone", Due.NONE, x.lasts(0));
        DUE.is("18: lasts(5)", Due.UNKNOWN, x.lasts(5));
        DUE.is("18: lasts(-1)", Due.UNKNOWN, x.lasts(-1));
        DUE.is("18: no wind", Due.NONE, Due.isles("s2;l0 1 0 1 0 0;").lasts(0));
        // One of strain in 12 hours, 1 in the last of them: hour 192 has 16 of it, hour 204 would have 17.
        LinkedIsles y = Due.isles("s2;l0 1 0 16 0 0;l0 1 0 17 0 0;w0,0,0,0,0,0,0,0,0,0,0,1;");
        DUE.is("18: late", 192, y.lasts(0));
        DUE.is("18: too late", Due.NONE, y.lasts(1));
        LinkedIsles z = Due.isles("s2;l0 1 0 20 0 0;l0 1 0 21 0 0;w0,0,0,0,0,0,0,0,0,1;");
        DUE.is("18: behind 200", 200, z.lasts(0));
        z.undoLink(0);
        z.hour(9);
        DUE.is("18: 201 are not tried", Due.NONE, z.lasts(1));
        z.hour(1);
        DUE.is("18: behind 200 from hour 10", 200, z.lasts(1));
    }

    private static void breakingFirst() {
        LinkedIsles x = Due.isles(RING);
        DUE.is("19: first(0)", 1, x.first(0));
        DUE.is("19: first(1)", 2, x.first(1));
        x.undoLink(1);
        x.undoLink(3);
        DUE.is("19: of one hour the least", 0, x.first(0));
        DUE.is("19: behind 5", 5, x.first(1));
        DUE.is("19: first(2)", Due.OUTSIDE, x.first(2));
        DUE.is("19: first(-1)", Due.OUTSIDE, x.first(-1));
        LinkedIsles y = Due.isles("s2;l0 1 0 1 0 0;");
        DUE.is("19: none", Due.NONE, y.first(0));
        DUE.is("19: none", Due.NONE, y.first(1));
        DUE.is("19: first(2) without a sea", Due.OUTSIDE, new LinkedIsles().first(2));
    }

    private static void stillDoneUp() {
        LinkedIsles x = Due.isles(RING);
        int[] due = {31, 31, 29, 29, 21, 16};
        for (int n = 0; n < due.length; n++) {
            DUE.is("20: still(" + n + ")", due[n], x.still(n));
        }
        DUE.is("20: still(60)", 0, x.still(60));
        DUE.is("20: still(61)", Due.OUTSIDE, x.still(61));
        DUE.is("20: still(-1)", Due.OUTSIDE, x.still(-1));
        x.undoLink(0);
        DUE.is("20: undone ones are not", 30, x.still(0));
        DUE.is("20: still(61) without a sea", Due.OUTSIDE, new LinkedIsles().still(61));
    }

    private static void partsOfAll() {
        LinkedIsles x = Due.isles(RING);
        int[] due = {2, 2, 2, 2, 3, 5};
        for (int n = 0; n < due.length; n++) {
            DUE.is("21: parts(" + n + ")", due[n], x.parts(n));
        }
        DUE.is("21: parts(60)", 6, x.parts(60));
        DUE.is("21: parts(61)", Due.OUTSIDE, x.parts(61));
        DUE.is("21: parts(-1)", Due.OUTSIDE, x.parts(-1));
        DUE.is("21: no links", 8, Due.isles("s8;").parts(0));
        DUE.is("21: parts that lie among one another", 2, Due.isles("s4;l0 2 0 9 0 0;l1 3 0 9 0 0;").parts(0));
        DUE.is("21: one around another", 2, Due.isles("s4;l0 3 0 9 0 0;l1 2 0 9 0 0;").parts(0));
    }

    private static void hangingTogether() {
        LinkedIsles x = Due.isles(RING);
        DUE.is("22: together(0)", 31, x.together(0));
        DUE.is("22: together(5)", 32, x.together(5));
        x.undoLink(3);
        DUE.is("22: together(1)", 7, x.together(1));
        DUE.is("22: together(4)", 24, x.together(4));
        DUE.is("22: together(6)", Due.UNKNOWN, x.together(6));
        DUE.is("22: together(-1)", Due.UNKNOWN, x.together(-1));
    }

    private static void cuts() {
        LinkedIsles x = Due.isles(RING);
        DUE.is("23: between(0, 2, 0)", 2, x.between(0, 2, 0));
        DUE.is("23: between(0, 2, 1), of 1, 4 and 2, 4 the least", 5, x.between(0, 2, 1));
        DUE.is("23: between(1, 2, 1)", 3, x.between(1, 2, 1));
        DUE.is("23: between(4, 0, 0)", 1, x.between(4, 0, 0));
        DUE.is("23: between(4, 0, 1)", 8, x.between(4, 0, 1));
        DUE.is("23: between(0, 5, 0)", 0, x.between(0, 5, 0));
        DUE.is("23: between(0, 5, 1)", 0, x.between(0, 5, 1));
        x.undoLink(0);
        DUE.is("23: of those that are done up", 4, x.between(0, 2, 1));
        DUE.is("23: between(0, 0, 0)", Due.UNKNOWN, x.between(0, 0, 0));
        DUE.is("23: between(0, 6, 2)", Due.UNKNOWN, x.between(0, 6, 2));
        DUE.is("23: between(-1, 0, 0)", Due.UNKNOWN, x.between(-1, 0, 0));
        DUE.is("23: between(0, 1, 2)", Due.OUTSIDE, x.between(0, 1, 2));
        DUE.is("23: between(0, 1, -1)", Due.OUTSIDE, x.between(0, 1, -1));
    }

    private static void manyCuts() {
        StringBuilder s = new StringBuilder("s2;");
        for (int i = 0; i < 10; i++) {
            s.append("l0 1 0 9 1 1;");
        }
        LinkedIsles x = Due.isles(s.toString());
        DUE.is("23: ten between two", 10, x.between(1, 0, 0));
        DUE.is("23: ten between two", 1023, x.between(1, 0, 1));
    }

    private static void ways() {
        LinkedIsles x = Due.isles("s6;l0 1 0 9 0 0;l1 2 0 9 0 0;l0 3 0 9 0 0;l3 2 0 9 0 0;l3 2 0 9 0 0;l2 4 0 9 0 0;");
        DUE.is("24: way(0, 4, 0)", 3, x.way(0, 4, 0));
        DUE.is("24: way(0, 4, 1), of like ones the least", 0, x.way(0, 4, 1));
        DUE.is("24: way(4, 0, 1)", 5, x.way(4, 0, 1));
        DUE.is("24: way(2, 3, 1), of twins the least", 3, x.way(2, 3, 1));
        DUE.is("24: way(3, 1, 1)", 2, x.way(3, 1, 1));
        x.undoLink(0);
        DUE.is("24: way(0, 1, 0), around", 3, x.way(0, 1, 0));
        DUE.is("24: way(0, 1, 1), around", 2, x.way(0, 1, 1));
        DUE.is("24: way(0, 5, 0)", Due.NONE, x.way(0, 5, 0));
        DUE.is("24: way(0, 5, 1)", Due.NONE, x.way(0, 5, 1));
        DUE.is("24: way(0, 0, 0)", Due.UNKNOWN, x.way(0, 0, 0));
        DUE.is("24: way(6, 0, 2)", Due.UNKNOWN, x.way(6, 0, 2));
        DUE.is("24: way(0, 1, 2)", Due.OUTSIDE, x.way(0, 1, 2));
        DUE.is("24: way(0, 5, -1)", Due.OUTSIDE, x.way(0, 5, -1));
        LinkedIsles row = Due.isles("s8;l0 1 0 9 0 0;l1 2 0 9 0 0;l2 3 0 9 0 0;l3 4 0 9 0 0;l4 5 0 9 0 0;l5 6 0 9 0 0;l6 7 0 9 0 0;");
        DUE.is("24: the longest", 7, row.way(7, 0, 0));
        DUE.is("24: its first", 6, row.way(7, 0, 1));
        DUE.is("26: the farthest", 7, row.farthest(0, 0));
        DUE.is("26: how far", 7, row.farthest(0, 1));
    }

    private static void widestWays() {
        LinkedIsles x = Due.isles("s4;l0 1 0 20 0 0;l1 2 2 9 0 0;l0 2 0 8 0 0;w4;");
        DUE.is("25: widest(0, 2)", 9, x.widest(0, 2));
        DUE.is("25: widest(2, 0)", 9, x.widest(2, 0));
        DUE.is("25: widest(0, 1)", 20, x.widest(0, 1));
        x.hour(1);
        DUE.is("25: strain counts", 7, x.widest(0, 2));
        x.undoLink(1);
        DUE.is("25: of those that are done up", 4, x.widest(0, 2));
        DUE.is("25: widest(0, 3)", Due.NONE, x.widest(0, 3));
        LinkedIsles y = Due.isles("s3;l0 1 0 5 0 0;l1 2 0 9 0 0;l1 0 0 7 0 0;");
        DUE.is("25: the least on the way", 7, y.widest(0, 2));
        y.undoLink(2);
        DUE.is("25: the first link, too", 5, y.widest(0, 2));
        DUE.is("25: widest(1, 1)", Due.UNKNOWN, x.widest(1, 1));
        DUE.is("25: widest(0, 4)", Due.UNKNOWN, x.widest(0, 4));
        DUE.is("25: widest(-1, 4)", Due.UNKNOWN, x.widest(-1, 4));
    }

    private static void farthestIslands() {
        LinkedIsles x = Due.isles(RING);
        DUE.is("26: farthest(4, 0), of like ones the least", 0, x.farthest(4, 0));
        DUE.is("26: farthest(4, 1)", 3, x.farthest(4, 1));
        DUE.is("26: farthest(0, 0)", 4, x.farthest(0, 0));
        DUE.is("26: farthest(5, 0)", 5, x.farthest(5, 0));
        DUE.is("26: farthest(5, 1)", 0, x.farthest(5, 1));
        x.undoLink(3);
        DUE.is("26: farthest(2, 0)", 0, x.farthest(2, 0));
        DUE.is("26: farthest(2, 1)", 1, x.farthest(2, 1));
        DUE.is("26: farthest(6, 2)", Due.UNKNOWN, x.farthest(6, 2));
        DUE.is("26: farthest(-1, 0)", Due.UNKNOWN, x.farthest(-1, 0));
        DUE.is("26: farthest(0, 2)", Due.OUTSIDE, x.farthest(0, 2));
        DUE.is("26: farthest(0, -1)", Due.OUTSIDE, x.farthest(0, -1));
    }

    private static void keptUp() {
        LinkedIsles x = Due.isles("s3;l0 1 0 10 0 0;l1 2 0 12 0 0;l0 2 0 12 0 0;w3;");
        x.hour(2);
        DUE.is("27: keepUp(1, 0)", 0, x.keepUp(1, 0));
        DUE.is("27: keepUp(1, 1)", 0, x.keepUp(1, 1));
        // Behind 2 hours all of them would be gone: two of three are enough.
        DUE.is("27: keepUp(2, 0)", 2, x.keepUp(2, 0));
        DUE.is("27: keepUp(2, 1), of like ones the least", 3, x.keepUp(2, 1));
        DUE.is("27: keepUp(3, 1)", 3, x.keepUp(3, 1));
        DUE.is("27: keepUp(4, 0)", Due.NONE, x.keepUp(4, 0));
        DUE.is("27: keepUp(4, 1)", Due.NONE, x.keepUp(4, 1));
        x.mend(1);
        x.mend(1);
        x.mend(1);
        DUE.is("27: silver is not looked at", 1, x.keepUp(2, 0));
        DUE.is("27: one more than the mended one", 1, x.keepUp(2, 1));
        DUE.is("27: keepUp(61, 0)", Due.OUTSIDE, x.keepUp(61, 0));
        DUE.is("27: keepUp(-1, 0)", Due.OUTSIDE, x.keepUp(-1, 0));
        DUE.is("27: keepUp(0, 2)", Due.OUTSIDE, x.keepUp(0, 2));
        DUE.is("27: keepUp(0, -1)", Due.OUTSIDE, x.keepUp(0, -1));
    }

    private static void keptUpNow() {
        LinkedIsles x = Due.isles("s3;l0 1 0 9 0 0;l1 2 0 4 0 0;w3;");
        x.hour(2);
        DUE.is("27: parts of now", 2, x.parts(0));
        DUE.is("27: what is undone is not asked for", 1, x.keepUp(2, 1));
        DUE.is("27: behind 0", 0, x.keepUp(0, 0));
        DUE.is("27: no wind", 0, Due.isles("s2;l0 1 0 1 0 0;").keepUp(60, 1));
        LinkedIsles y = Due.isles("s8;l0 1 0 99 0 0;l1 2 0 99 0 0;l2 3 0 99 0 0;l3 4 0 99 0 0;l4 5 0 99 0 0;l5 6 0 99 0 0;"
            + "l0 1 1 99 0 0;l1 2 1 99 0 0;l2 3 1 99 0 0;l6 7 0 9 0 0;w5;");
        y.hour(1);
        DUE.is("27: the tenth link", 512, y.keepUp(1, 1));
        DUE.is("27: the tenth link does not hold", Due.NONE, y.keepUp(2, 1));
        y.hour(18);
        DUE.is("27: what is gone", 64 + 128 + 256 + 63, y.told(7));
        // 95 of 99: each of the links without a twin is mended.
        DUE.is("27: three", 3, y.keepUp(1, 0));
        DUE.is("27: which", 8 + 16 + 32, y.keepUp(1, 1));
    }

    private static void agreed() {
        LinkedIsles x = Due.isles("s3;l0 1 0 9 1 2;l1 2 0 9 1 2;l2 0 0 9 2 1;");
        // 0 reads 1, 1; 1 reads 2, 1; 2 reads 2, 2.
        DUE.is("28: clashes", 2, x.told(9));
        DUE.is("28: agree(0)", 1, x.agree(0));
        DUE.is("28: agree(1)", 0, x.agree(1));
        x.undoLink(2);
        DUE.is("28: agree(0)", 0, x.agree(0));
        DUE.is("28: agree(1), of like ones the least", 1, x.agree(1));
        x.turn(1);
        DUE.is("28: either way", 0, x.agree(1));
        x.turn(0);
        DUE.is("28: turned both", 1, x.agree(1));
        DUE.is("28: agree(2)", Due.OUTSIDE, x.agree(2));
        DUE.is("28: agree(-1)", Due.OUTSIDE, x.agree(-1));
    }

    private static void agreedByFewest() {
        // The links 0 and 1 turned, or 2 alone: fewest goes ahead of the least set.
        LinkedIsles x = Due.isles("s4;l0 1 0 9 1 2;l0 2 0 9 1 2;l0 3 0 9 2 1;");
        DUE.is("28: agree(0)", 0, x.agree(0));
        DUE.is("28: agree(1)", 4, x.agree(1));
    }

    private static void folded() {
        LinkedIsles x = Due.isles("s6;l0 1 0 9 0 0;l0 2 0 9 0 0;l3 1 0 9 0 0;l2 3 0 9 0 0;l1 2 0 9 0 0;");
        // 0 and 3 both have 1, 2; so have 1 and 2 both 0, 3, their own link not looked at.
        DUE.is("29: fold(NONE)", 2, x.fold(Due.NONE));
        DUE.is("29: fold(0)", 3, x.fold(0));
        DUE.is("29: fold(1)", 12, x.fold(1));
        DUE.is("29: fold(2)", Due.NONE, x.fold(2));
        DUE.is("29: fold(-2)", Due.NONE, x.fold(-2));
        x.undoLink(0);
        DUE.is("29: of those that are done up", 1, x.fold(Due.NONE));
        DUE.is("29: 1 and 3 both have 2", 13, x.fold(0));
        LinkedIsles two = Due.isles("s2;l0 1 0 9 0 0;");
        DUE.is("29: to one at least", 0, two.fold(Due.NONE));
        LinkedIsles star = Due.isles("s4;l0 3 0 9 0 0;l1 3 0 9 0 0;l3 2 0 9 0 0;l3 2 0 9 0 0;");
        DUE.is("29: a star", 3, star.fold(Due.NONE));
        DUE.is("29: rising", 1, star.fold(0));
        DUE.is("29: rising", 2, star.fold(1));
        DUE.is("29: rising", 12, star.fold(2));
    }

    private static void shared() {
        LinkedIsles x = Due.isles("s2;l0 1 2 90 0 0;l0 1 0 90 0 0;l0 1 3 90 0 0;l0 1 1 90 0 0;l0 1 0 90 0 0;w4;");
        x.hour(1);
        x.undoLink(4);
        DUE.is("30: share(0, 0)", 0, x.share(0, 0));
        DUE.is("30: share(0, 1)", 0, x.share(0, 1));
        DUE.is("30: share(1, 1), of like ones the least", 2, x.share(1, 1));
        DUE.is("30: share(2, 1)", 6, x.share(2, 1));
        DUE.is("30: share(3, 1)", 7, x.share(3, 1));
        DUE.is("30: share(3, 0)", 0, x.share(3, 0));
        DUE.is("30: share(4, 1), without strain, too", 15, x.share(4, 1));
        DUE.is("30: share(6, 0)", 2, x.share(6, 0));
        DUE.is("30: share(99, 0)", 95, x.share(99, 0));
        DUE.is("30: share(99, 1)", 15, x.share(99, 1));
        DUE.is("30: share(100, 0)", Due.OUTSIDE, x.share(100, 0));
        DUE.is("30: share(-1, 0)", Due.OUTSIDE, x.share(-1, 0));
        DUE.is("30: share(0, 2)", Due.OUTSIDE, x.share(0, 2));
        DUE.is("30: share(0, -1)", Due.OUTSIDE, x.share(0, -1));
        DUE.is("30: silver stays", 3, x.told(5));
        LinkedIsles y = Due.isles("s2;" + "l0 1 0 90 0 0;".repeat(10) + "w4;");
        y.hour(1);
        DUE.is("30: ten of ten", 1023, y.share(10, 1));
        DUE.is("30: nine of ten", 511, y.share(9, 1));
        DUE.is("30: one is left over", 1, y.share(11, 0));
    }

    private static void calmHours() {
        LinkedIsles x = new LinkedIsles();
        DUE.is("31: calm(0, 0)", 1000000000, x.calm(0, 0));
        DUE.is("31: calm(1, 0)", 0, x.calm(1, 0));
        DUE.is("31: calm(60, 100)", 1000000000, x.calm(60, 100));
        DUE.is("31: calm(2, 90)", 810000000, x.calm(2, 90));
        DUE.is("31: calm(5, 33)", 3913539, x.calm(5, 33));
        DUE.is("31: calm(60, 99), cut each time", 547156620, x.calm(60, 99));
        DUE.is("31: calm(60, 1)", 0, x.calm(60, 1));
        DUE.is("31: calm(61, 1)", Due.OUTSIDE, x.calm(61, 1));
        DUE.is("31: calm(-1, 1)", Due.OUTSIDE, x.calm(-1, 1));
        DUE.is("31: calm(1, 101)", Due.OUTSIDE, x.calm(1, 101));
        DUE.is("31: calm(1, -1)", Due.OUTSIDE, x.calm(1, -1));
    }

    private static void nothingChanges() {
        LinkedIsles x = Due.isles(RING);
        x.hour(1);
        x.turn(2);
        x.hear(0, 4, false);
        x.write(1, 0);
        String before = Due.all(x);
        for (int what = 0; what <= 1; what++) {
            x.lasts(what);
            x.first(what);
            x.still(60);
            x.parts(60);
            x.together(what);
            x.between(0, 4, what);
            x.way(0, 4, what);
            x.widest(0, 4);
            x.farthest(0, what);
            x.keepUp(3, what);
            x.agree(what);
            x.fold(what);
            x.share(3, what);
            x.calm(3, 50);
            x.traitor();
            x.ask();
            x.judge();
        }
        DUE.unchanged("18 to 36: what is tried", before, x);
    }
}
