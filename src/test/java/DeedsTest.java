/** Promises 9 to 17: hours, links undone, done up, turned, mended, studs held, silver, hours by draws, undone again. */
public final class DeedsTest {
    private static final Due DUE = new Due("DeedsTest");

    public static void main(String[] args) {
        hoursByKind();
        hoursAndBreaks();
        hoursRefused();
        undoneByHand();
        doneUp();
        turned();
        mended();
        held();
        earned();
        drifted();
        driftedBySteps();
        undone();
        undoneTenLinks();
        undoneAtMost();
        DUE.end();
    }

    private static void hoursByKind() {
        LinkedIsles x = Due.isles("s2;l0 1 0 99 0 0;l0 1 1 99 0 0;l0 1 2 99 0 0;l0 1 3 99 0 0;l0 1 3 99 0 0;w5,6,2,9,3,0,1;");
        x.hold(4, true);
        int[][] due = {{5, 0, 2, 5, 2}, {11, 12, 5, 11, 5}, {13, 12, 6, 13, 5}, {22, 30, 10, 22, 11}, {25, 30, 11, 25, 11}, {25, 30, 11, 25, 11}, {26, 30, 11, 26, 11}};
        for (int h = 0; h < due.length; h++) {
            DUE.is("9: hour(1)", 31, x.hour(1));
            DUE.is("9: told(4)", h + 1, x.told(4));
            for (int l = 0; l < 5; l++) {
                DUE.is("9: link(" + l + ", 4) behind " + (h + 1), due[h][l], x.link(l, 4));
            }
        }
        x.undoLink(0);
        x.hour(1);
        DUE.is("9: no strain while undone", 26, x.link(0, 4));
        DUE.is("9: the winds come again", 31, x.link(3, 4));
    }

    private static void hoursAndBreaks() {
        LinkedIsles x = Due.isles("s2;l0 1 0 10 0 0;l0 1 0 11 0 0;l0 1 0 4 0 0;w5;");
        DUE.is("9: one breaks", 3, x.hour(1));
        DUE.is("9: told(6)", 1, x.told(6));
        DUE.is("9: strain is strength", 2, x.hour(1));
        DUE.is("9: told(6)", 2, x.told(6));
        DUE.is("9: strain stays", 10, x.link(0, 4));
        DUE.is("9: all break", 0, x.hour(3));
        DUE.is("9: told(6)", 3, x.told(6));
        DUE.is("9: told(4)", 5, x.told(4));
        DUE.is("9: what breaks is not strained any more", 15, x.link(1, 4));
    }

    private static void hoursRefused() {
        LinkedIsles x = Due.isles("s2;l0 1 0 10 0 0;w1;");
        String before = Due.all(x);
        DUE.is("9: hour(0)", Due.OUTSIDE, x.hour(0));
        DUE.is("9: hour(31)", Due.OUTSIDE, x.hour(31));
        DUE.is("9: hour(-1)", Due.OUTSIDE, x.hour(-1));
        DUE.is("16: drift(0)", Due.OUTSIDE, x.drift(0));
        DUE.is("16: drift(31)", Due.OUTSIDE, x.drift(31));
        DUE.unchanged("9, 16: a refusal", before, x);
        DUE.is("9: hour(1) without a sea", Due.NOT, new LinkedIsles().hour(1));
        DUE.is("9: hour(31) without a sea", Due.OUTSIDE, new LinkedIsles().hour(31));
        DUE.is("16: drift(1) without a sea", Due.NOT, new LinkedIsles().drift(1));
        DUE.is("16: drift(0) without a sea", Due.OUTSIDE, new LinkedIsles().drift(0));
        DUE.is("9: hour(30)", 0, x.hour(30));
        for (int i = 1; i < 3000; i++) {
            x.hour(30);
        }
        DUE.is("9: told(4)", 90000, x.told(4));
        DUE.is("9: 90000 is not above it", 0, x.hour(1));
        DUE.is("9: hour(1) above 90000", Due.FULL, x.hour(1));
        DUE.is("9: hour(31) above 90000", Due.OUTSIDE, x.hour(31));
        DUE.is("16: drift(1) above 90000", Due.FULL, x.drift(1));
        DUE.is("9: told(4)", 90001, x.told(4));
    }

    private static void undoneByHand() {
        LinkedIsles x = Due.isles("s3;l0 1 0 10 0 0;l1 2 0 10 0 0;w1;");
        DUE.is("10: undoLink(1)", 1, x.undoLink(1));
        DUE.is("10: told(7)", 1, x.told(7));
        DUE.is("10: told(6)", 0, x.told(6));
        String before = Due.all(x);
        DUE.is("10: undoLink(1) again", Due.NOT, x.undoLink(1));
        DUE.is("10: undoLink(2)", Due.UNKNOWN, x.undoLink(2));
        DUE.is("10: undoLink(-1)", Due.UNKNOWN, x.undoLink(-1));
        DUE.unchanged("10: a refusal", before, x);
        DUE.is("10: undoLink(0)", 0, x.undoLink(0));
        DUE.is("10: told(12)", 2, x.told(12));
    }

    private static void doneUp() {
        LinkedIsles x = Due.isles("s3;l0 1 0 10 0 0;l1 2 0 3 0 0;w2;");
        x.hour(1);
        x.undoLink(0);
        x.hour(1);
        DUE.is("11: doUp(0)", 1, x.doUp(0));
        DUE.is("11: strain stays", 2, x.link(0, 4));
        String before = Due.all(x);
        DUE.is("11: doUp(0) again", Due.NOT, x.doUp(0));
        DUE.is("11: doUp(1), broken", Due.NOT, x.doUp(1));
        DUE.is("11: doUp(2)", Due.UNKNOWN, x.doUp(2));
        DUE.is("11: doUp(-1)", Due.UNKNOWN, x.doUp(-1));
        DUE.unchanged("11: a refusal", before, x);
        x.mend(1);
        DUE.is("11: doUp(1), mended", 2, x.doUp(1));
        DUE.is("11: told(7)", 3, x.told(7));
        LinkedIsles y = Due.isles("s2;l0 1 0 4 0 0;w4;");
        y.hour(1);
        DUE.is("11: strain is just strength", Due.NOT, y.doUp(0));
        LinkedIsles z = Due.isles("s2;l0 1 0 5 0 0;w4;");
        z.hour(1);
        z.undoLink(0);
        DUE.is("11: strain is 1 less", 1, z.doUp(0));
    }

    private static void turned() {
        LinkedIsles x = Due.isles("s2;l0 1 0 10 0 0;");
        DUE.is("12: turn(0)", 1, x.turn(0));
        DUE.is("12: link(0, 6)", 1, x.link(0, 6));
        DUE.is("12: turn(0) again", 0, x.turn(0));
        x.undoLink(0);
        DUE.is("12: turn(0) undone", 1, x.turn(0));
        String before = Due.all(x);
        DUE.is("12: turn(1)", Due.UNKNOWN, x.turn(1));
        DUE.is("12: turn(-1)", Due.UNKNOWN, x.turn(-1));
        DUE.unchanged("12: a refusal", before, x);
        DUE.is("12: told(12)", 4, x.told(12));
    }

    private static void mended() {
        LinkedIsles x = Due.isles("s2;l0 1 0 10 0 0;w9;");
        x.hour(2);
        DUE.is("13: mend(0)", 2, x.mend(0));
        DUE.is("13: strain is gone", 0, x.link(0, 4));
        DUE.is("13: it is not done up by that", 0, x.link(0, 5));
        DUE.is("13: mend(0) without strain", 1, x.mend(0));
        DUE.is("13: mend(0)", 0, x.mend(0));
        String before = Due.all(x);
        DUE.is("13: mend(0) without silver", Due.NOT, x.mend(0));
        DUE.is("13: mend(1) without silver", Due.UNKNOWN, x.mend(1));
        DUE.is("13: mend(-1)", Due.UNKNOWN, x.mend(-1));
        DUE.unchanged("13: a refusal", before, x);
    }

    private static void held() {
        LinkedIsles x = Due.isles("s2;l0 1 3 99 0 0;l0 1 2 99 0 0;w8;");
        DUE.is("14: hold(0, true)", 0, x.hold(0, true));
        DUE.is("14: hold(0, true) again", 1, x.hold(0, true));
        DUE.is("14: link(0, 7)", 1, x.link(0, 7));
        x.hour(1);
        DUE.is("14: 3 less", 5, x.link(0, 4));
        DUE.is("14: hold(0, false)", 1, x.hold(0, false));
        DUE.is("14: hold(0, false) again", 0, x.hold(0, false));
        x.hour(1);
        DUE.is("14: not held", 13, x.link(0, 4));
        DUE.is("14: told(12)", 6, x.told(12));
        LinkedIsles y = Due.isles("s2;l0 1 3 99 0 0;l0 1 3 99 0 0;");
        y.hold(0, true);
        y.hold(1, true);
        y.hold(1, false);
        DUE.is("14: the one", 0, y.link(1, 7));
        DUE.is("14: and the other", 1, y.link(0, 7));
        String before = Due.all(x);
        DUE.is("14: hold(1, true)", Due.NOT, x.hold(1, true));
        DUE.is("14: hold(2, true)", Due.UNKNOWN, x.hold(2, true));
        DUE.is("14: hold(-1, false)", Due.UNKNOWN, x.hold(-1, false));
        DUE.unchanged("14: a refusal", before, x);
    }

    private static void earned() {
        LinkedIsles x = Due.isles("s2;");
        DUE.is("15: earn(1)", 4, x.earn(1));
        DUE.is("15: earn(90)", 94, x.earn(90));
        DUE.is("15: earn(99)", 99, x.earn(99));
        DUE.is("15: earn(1) at the most", 99, x.earn(1));
        DUE.is("15: told(5)", 99, x.told(5));
        String before = Due.all(x);
        DUE.is("15: earn(0)", Due.OUTSIDE, x.earn(0));
        DUE.is("15: earn(100)", Due.OUTSIDE, x.earn(100));
        DUE.unchanged("15: a refusal", before, x);
        DUE.is("15: told(12)", 4, x.told(12));
        DUE.is("15: earn(1) without a sea", Due.NOT, new LinkedIsles().earn(1));
        DUE.is("15: earn(0) without a sea", Due.OUTSIDE, new LinkedIsles().earn(0));
    }

    private static void drifted() {
        LinkedIsles x = Due.isles("s2;w5;");
        x.seed(5);
        DUE.is("16: without links", 0, x.drift(3));
        DUE.is("16: no draw", 5, x.seed(5));
        DUE.is("16: told(4)", 3, x.told(4));
        DUE.is("16: told(12)", 3, x.told(12));
        LinkedIsles y = Due.isles("s2;l0 1 0 99 1 2;");
        y.drift(1);
        DUE.is("16: one link is drawn for, too", 1, y.seed(0) == 0 ? 0 : 1);
    }

    /** The document's draws told again, by long arithmetic, against one drift of many hours. */
    private static void driftedBySteps() {
        String text = "s3;l0 1 0 40 1 2;l1 2 1 30 3 4;l2 0 3 9 5 6;w1,0,2;";
        for (int start = 0; start < 400; start += 7) {
            LinkedIsles x = Due.isles(text);
            LinkedIsles y = Due.isles(text);
            long seed = start;
            y.seed(start);
            y.drift(20);
            for (int h = 0; h < 20; h++) {
                seed = (seed * 1103515245L + 12345L) % 2147483648L;
                int deed = (int) (seed / 65536 % 6);
                if (deed < 3) {
                    seed = (seed * 1103515245L + 12345L) % 2147483648L;
                    int l = (int) (seed / 65536 % 3);
                    int ignored = deed == 0 ? x.undoLink(l) : deed == 1 ? x.doUp(l) : x.turn(l);
                }
                x.hour(1);
            }
            for (int l = 0; l < 3; l++) {
                for (int what = 4; what <= 7; what++) {
                    DUE.is("16: link(" + l + ", " + what + ") from " + start, x.link(l, what), y.link(l, what));
                }
            }
            DUE.is("16: told(6) from " + start, x.told(6), y.told(6));
            DUE.is("16: told(12) from " + start, 20, y.told(12));
            DUE.is("16: the seed from " + start, seed, y.seed(0));
        }
    }

    private static void undone() {
        LinkedIsles x = Due.isles("s3;l0 1 0 9 1 2;l1 2 3 30 3 4;w4;");
        DUE.is("17: undo(1) of nothing", Due.NOT, x.undo(1));
        String first = Due.all(x);
        x.hour(3);
        x.turn(0);
        x.undoLink(1);
        x.doUp(1);
        x.mend(0);
        x.hold(1, true);
        x.earn(5);
        DUE.is("17: told(12)", 9, x.told(12));
        DUE.is("17: told(6)", 1, x.told(6));
        DUE.is("17: undo(10)", Due.NOT, x.undo(10));
        DUE.is("17: undo(1): earn", 3, x.undo(1));
        DUE.is("17: silver", 2, x.told(5));
        DUE.is("17: undo(1): hold", 3, x.undo(1));
        DUE.is("17: not held", 0, x.link(1, 7));
        DUE.is("17: undo(1): mend", 3, x.undo(1));
        DUE.is("17: silver", 3, x.told(5));
        DUE.is("17: strain", 12, x.link(0, 4));
        DUE.is("17: undo(2): doUp and undoLink", 3, x.undo(2));
        DUE.is("17: done up", 2, x.told(7));
        DUE.is("17: undo(1): turn", 3, x.undo(1));
        DUE.is("17: not turned", 0, x.link(0, 6));
        DUE.is("17: undo(2): hours", 1, x.undo(2));
        DUE.is("17: not broken", 0, x.told(6));
        DUE.is("17: undo(1)", 0, x.undo(1));
        DUE.unchanged("17: all undone", first, x);
        x.seed(9);
        x.drift(4);
        int seed = x.seed(0);
        x.seed(seed);
        DUE.is("17: each hour by draws", 4, x.told(12));
        DUE.is("17: undo(3)", 1, x.undo(3));
        DUE.is("17: the seed stays", seed, x.seed(0));
        x.hear(0, 1, true);
        x.write(0, 1);
        x.undo(1);
        DUE.is("17: what was heard stays", 1, x.told(10));
        DUE.is("17: the book stays", 1, x.told(11));
    }

    private static void undoneTenLinks() {
        LinkedIsles x = Due.isles("s8;" + "l0 7 0 99 1 2;".repeat(10) + "w7;");
        x.hour(2);
        x.hour(1);
        x.undo(1);
        for (int l = 0; l < 10; l++) {
            DUE.is("17: strain of " + l, 14, x.link(l, 4));
        }
        Due.feed(x, "s8;" + "l0 7 0 99 1 2;".repeat(10));
        x.sea();
        for (int l = 0; l < 10; l++) {
            DUE.is("3: strain of " + l, 0, x.link(l, 4));
        }
    }

    private static void undoneAtMost() {
        LinkedIsles x = Due.isles("s2;l0 1 0 99 1 2;w1;");
        x.turn(0);
        x.hour(29);
        DUE.is("17: told(12)", 30, x.told(12));
        x.hour(1);
        DUE.is("17: told(12) at the most", 30, x.told(12));
        String before = Due.all(x);
        DUE.is("17: undo(0)", Due.OUTSIDE, x.undo(0));
        DUE.is("17: undo(31)", Due.OUTSIDE, x.undo(31));
        DUE.unchanged("17: a refusal", before, x);
        DUE.is("17: undo(30)", 0, x.undo(30));
        DUE.is("17: the 31st is not kept", 1, x.link(0, 6));
        DUE.is("17: undo(1)", Due.NOT, x.undo(1));
        x.hour(30);
        x.hour(30);
        DUE.is("17: undo(12)", 48, x.undo(12));
        DUE.is("17: undo(19)", Due.NOT, x.undo(19));
        DUE.is("17: undo(18)", 30, x.undo(18));
        DUE.is("17: strain", 30, x.link(0, 4));
        Due.feed(x, "s2;");
        x.hour(5);
        x.sea();
        DUE.is("17: undo(1) behind a text", Due.NOT, x.undo(1));
        DUE.is("17: undo(0) of nothing", Due.OUTSIDE, x.undo(0));
    }
}
