/** Section 2, promises 6 to 17: the edges of strain, silver, winds, hours, draws and what can be undone, sentence by sentence. */
public final class DeedEdgesTest {
    private static final Due DUE = new Due("DeedEdgesTest");
    private static final String TEN = "s8;" + "l0 7 0 99 1 2;".repeat(10);

    public static void main(String[] args) {
        atFirst();
        strainByKindAndWind();
        strainAtMost();
        breaksAtStrength();
        breaksAreCounted();
        windsLeftOver();
        hoursInOneCall();
        hoursWithoutLinks();
        hoursAboveTheMost();
        undoneByHand();
        doneUpAgain();
        turnedEitherWay();
        silverForMending();
        silverAtMost();
        heldByKind();
        readingEdges();
        readingOfHeld();
        clashes();
        undoneAgainOneByOne();
        undoneAgainAtMost();
        undoneAgainAll();
        undoneSinceTextOrImage();
        refusedIsNoDeed();
        DUE.end();
    }

    private static void atFirst() {
        LinkedIsles x = Due.isles("s8;l0 1 0 1 0 9;l2 3 1 99 9 0;l4 5 2 50 1 2;l6 7 3 51 3 4;w9;");
        for (int l = 0; l < 4; l++) {
            DUE.is("2: DONE UP at first", 1, x.link(l, 5));
            DUE.is("2: not TURNED at first", 0, x.link(l, 6));
            DUE.is("2: not HELD at first", 0, x.link(l, 7));
            DUE.is("2: STRAIN 0 at first", 0, x.link(l, 4));
        }
        DUE.is("3: HOUR 0", 0, x.told(4));
        DUE.is("3: SILVER 3", 3, x.told(5));
        DUE.is("3: nothing BROKEN", 0, x.told(6));
        for (int links = 0; links <= 10; links++) {
            LinkedIsles y = Due.isles("s2;" + "l0 1 0 9 1 1;".repeat(links));
            DUE.is("5: " + links + " LINKS", links, y.told(1));
            DUE.is("5: " + links + " are DONE UP", (1 << links) - 1, y.told(7));
            DUE.is("6: one more than " + links, Due.UNKNOWN, y.link(links, 0));
        }
    }

    private static void strainByKindAndWind() {
        int[] gold = {0, 1, 2, 3, 4, 5, 6, 7, 8, 9};
        int[] silk = {0, 0, 0, 0, 0, 0, 12, 14, 16, 18};
        int[] chain = {0, 0, 1, 1, 2, 2, 3, 3, 4, 4};
        int[] heldStud = {0, 0, 0, 0, 1, 2, 3, 4, 5, 6};
        for (int wind = 0; wind <= 9; wind++) {
            LinkedIsles x = Due.isles("s2;l0 1 0 99 0 0;l0 1 1 99 0 0;l0 1 2 99 0 0;l0 1 3 99 0 0;l0 1 3 99 0 0;w" + wind + ";");
            x.hold(4, true);
            x.hour(1);
            int[] due = {gold[wind], silk[wind], chain[wind], gold[wind], heldStud[wind]};
            for (int l = 0; l < 5; l++) {
                DUE.is("2: STRAIN of " + l + " by a WIND of " + wind, due[l], x.link(l, 4));
            }
            x.hour(1);
            for (int l = 0; l < 5; l++) {
                DUE.is("2: STRAIN of " + l + " by two of " + wind, 2 * due[l], x.link(l, 4));
            }
        }
    }

    /** 999 cannot be reached: what has STRENGTH or more is UNDONE, and 98 and 18 is the most that comes. */
    private static void strainAtMost() {
        LinkedIsles x = Due.isles("s2;l0 1 1 99 0 0;w7,7,7,7,7,7,7,9;");
        DUE.is("2: 98 of 99 holds", 1, x.hour(7));
        DUE.is("2: STRAIN 98", 98, x.link(0, 4));
        DUE.is("2: it BREAKS", 0, x.hour(1));
        DUE.is("2: STRAIN 116", 116, x.link(0, 4));
        x.hour(30);
        DUE.is("2: STRAIN of what is UNDONE stays", 116, x.link(0, 4));
        DUE.is("11: doUp(0)", Due.NOT, x.doUp(0));
        DUE.is("5: it BROKE once", 1, x.told(6));
        DUE.is("13: MENDED for 1, whatever the STRAIN is", 2, x.mend(0));
        DUE.is("2: STRAIN 0", 0, x.link(0, 4));
    }

    private static void breaksAtStrength() {
        int[] strain = {8, 16, 4, 8};
        for (int kind = 0; kind <= 3; kind++) {
            for (int more = -1; more <= 1; more++) {
                LinkedIsles x = Due.isles("s2;l0 1 " + kind + " " + (strain[kind] + more) + " 0 0;w8;");
                DUE.is("2: KIND " + kind + ", STRENGTH " + more + " more than STRAIN", more > 0 ? 1 : 0, x.hour(1));
                DUE.is("5: how many BROKE", more > 0 ? 0 : 1, x.told(6));
                DUE.is("6: STRAIN", strain[kind], x.link(0, 4));
                DUE.is("6: DONE UP", more > 0 ? 1 : 0, x.link(0, 5));
            }
        }
        LinkedIsles held = Due.isles("s2;l0 1 3 5 0 0;l0 1 3 6 0 0;w8;");
        held.hold(0, true);
        held.hold(1, true);
        DUE.is("2: HELD, 5 of 5 BREAKS, 5 of 6 does not", 2, held.hour(1));
        DUE.is("2: the least STRENGTH in the least WIND", 0, Due.isles("s2;l0 1 0 1 0 0;w1;").hour(1));
        DUE.is("2: no WIND", 1, Due.isles("s2;l0 1 0 1 0 0;w0;").hour(30));
    }

    private static void breaksAreCounted() {
        LinkedIsles x = Due.isles("s2;" + "l0 1 0 5 0 0;".repeat(10) + "w5;");
        x.undoLink(9);
        DUE.is("10: by hand is not counted", 0, x.told(6));
        DUE.is("9: all that were DONE UP BREAK", 0, x.hour(1));
        DUE.is("5: nine BROKE", 9, x.told(6));
        x.mend(0);
        x.doUp(0);
        x.hour(1);
        DUE.is("5: the same one again", 10, x.told(6));
        DUE.is("11: doUp(9), without STRAIN", 1, x.doUp(9));
        x.hour(1);
        DUE.is("5: and the last", 11, x.told(6));
        DUE.is("17: undo(1)", 2, x.undo(1));
        DUE.is("17: that BREAK is not counted any more", 10, x.told(6));
    }

    private static void windsLeftOver() {
        int[] counts = {1, 2, 7, 11, 12};
        for (int count : counts) {
            StringBuilder s = new StringBuilder("s2;w0");
            for (int i = 1; i < count; i++) {
                s.append(',').append(i % 10);
            }
            LinkedIsles x = Due.isles(s.append(';').toString());
            for (int hour = 0; hour <= 26; hour++) {
                DUE.is("8: WIND of HOUR " + hour + " by " + count, hour % count % 10, x.wind(0));
                DUE.is("8: and behind 60", (hour + 60) % count % 10, x.wind(60));
                x.hour(1);
            }
        }
        LinkedIsles y = Due.isles("s2;l0 1 0 99 0 0;w9,0,0,0,0,0,0,0,0,0,0,1;");
        y.hour(11);
        DUE.is("2: HOURS 0 .. 10", 9, y.link(0, 4));
        y.hour(1);
        DUE.is("2: HOUR 11, the last of twelve", 10, y.link(0, 4));
        y.hour(1);
        DUE.is("2: HOUR 12 is the first again", 19, y.link(0, 4));
        y.hour(11);
        DUE.is("2: HOUR 23 is the last again", 20, y.link(0, 4));
    }

    private static void hoursInOneCall() {
        String text = "s3;l0 1 0 60 1 2;l1 2 1 99 1 2;l2 0 2 40 1 2;l0 2 3 70 1 2;w4,7,2,0,6;";
        for (int n = 1; n <= 30; n++) {
            LinkedIsles x = Due.isles(text);
            LinkedIsles y = Due.isles(text);
            int one = 0;
            for (int i = 0; i < n; i++) {
                one = y.hour(1);
            }
            DUE.is("9: hour(" + n + ") is so many of hour(1)", one, x.hour(n));
            DUE.is("9: told(4)", n, x.told(4));
            DUE.is("9: each is a deed", n, x.told(12));
            DUE.unchanged("9: hour(" + n + ") for so many of hour(1)", Due.all(y), x);
        }
    }

    private static void hoursWithoutLinks() {
        LinkedIsles x = Due.isles("s2;w9;");
        DUE.is("9: hour(30) without LINKS", 0, x.hour(30));
        DUE.is("9: told(4)", 30, x.told(4));
        DUE.is("16: drift(30) without LINKS", 0, x.drift(30));
        DUE.is("16: told(4)", 60, x.told(4));
        DUE.is("16: no DRAW", 0, x.seed(0));
        DUE.is("17: undo(30)", 30, x.undo(30));
    }

    private static LinkedIsles late(int hours) {
        LinkedIsles x = Due.isles("s2;l0 1 0 9 1 1;");
        for (int h = 0; h < hours; h += 30) {
            x.hour(Math.min(30, hours - h));
        }
        return x;
    }

    private static void hoursAboveTheMost() {
        LinkedIsles x = late(90000);
        DUE.is("9: HOURS", 90000, x.told(4));
        DUE.is("9: 90000 are not above 90000, so 30 more pass", 1, x.hour(30));
        DUE.is("9: HOURS", 90030, x.told(4));
        DUE.is("9: hour(1)", Due.FULL, x.hour(1));
        DUE.is("9: hour(30)", Due.FULL, x.hour(30));
        DUE.is("16: drift(1)", Due.FULL, x.drift(1));
        DUE.is("9: hour(0) is OUTSIDE first", Due.OUTSIDE, x.hour(0));
        DUE.is("16: drift(31) is OUTSIDE first", Due.OUTSIDE, x.drift(31));
        DUE.is("16: THE SEED stays", 0, x.seed(0));
        DUE.is("9: HOURS", 90030, x.told(4));
        DUE.is("17: undo(29)", 90001, x.undo(29));
        DUE.is("9: 90001 are above", Due.FULL, x.hour(1));
        DUE.is("17: undo(1)", 90000, x.undo(1));
        DUE.is("16: 90000 are not", 0, x.drift(1) < 0 ? 1 : 0);
        DUE.is("16: HOURS", 90001, x.told(4));
        DUE.is("16: drift(1) above", Due.FULL, x.drift(1));
    }

    private static void undoneByHand() {
        LinkedIsles x = Due.isles(TEN + "w1;");
        for (int l = 9; l >= 0; l--) {
            DUE.is("10: undoLink(" + l + ")", l, x.undoLink(l));
            DUE.is("10: again", Due.NOT, x.undoLink(l));
            DUE.is("5: told(7)", (1 << l) - 1, x.told(7));
        }
        DUE.is("9: an HOUR", 0, x.hour(1));
        for (int l = 0; l < 10; l++) {
            DUE.is("2: no STRAIN while UNDONE", 0, x.link(l, 4));
            DUE.is("11: doUp(" + l + ")", l + 1, x.doUp(l));
            DUE.is("11: again", Due.NOT, x.doUp(l));
        }
        DUE.is("5: told(7)", 1023, x.told(7));
        DUE.is("10: undoLink(10)", Due.UNKNOWN, x.undoLink(10));
        DUE.is("11: doUp(10)", Due.UNKNOWN, x.doUp(10));
        DUE.is("10: a broken one is UNDONE", Due.NOT, broken().undoLink(0));
    }

    /** One LINK that BROKE by STRAIN 9 of 9. */
    private static LinkedIsles broken() {
        LinkedIsles x = Due.isles("s2;l0 1 0 9 0 0;w9;");
        x.hour(1);
        return x;
    }

    private static void doneUpAgain() {
        int[] strengths = {8, 9, 10, 99};
        for (int strength : strengths) {
            LinkedIsles x = Due.isles("s2;l0 1 0 " + strength + " 0 0;w9;");
            x.hour(1);
            if (strength > 9) {
                x.undoLink(0);
            }
            DUE.is("11: STRAIN 9 of " + strength, strength > 9 ? 1 : Due.NOT, x.doUp(0));
            DUE.is("2: STRAIN stays", 9, x.link(0, 4));
        }
        LinkedIsles y = broken();
        DUE.is("13: MENDED it is not DONE UP yet", 2, y.mend(0));
        DUE.is("5: told(7)", 0, y.told(7));
        DUE.is("11: now it can be", 1, y.doUp(0));
        DUE.is("5: it stays counted", 1, y.told(6));
    }

    private static void turnedEitherWay() {
        LinkedIsles x = Due.isles(TEN);
        for (int l = 0; l < 10; l++) {
            DUE.is("12: turn(" + l + ")", 1, x.turn(l));
        }
        for (int l = 0; l < 10; l++) {
            DUE.is("6: TURNED", 1, x.link(l, 6));
            DUE.is("12: turn(" + l + ") again", 0, x.turn(l));
            DUE.is("6: not TURNED", 0, x.link(l, 6));
        }
        DUE.is("12: turn(10)", Due.UNKNOWN, x.turn(10));
        LinkedIsles y = broken();
        DUE.is("12: what BROKE can be TURNED", 1, y.turn(0));
        DUE.is("6: and stays UNDONE", 0, y.link(0, 5));
    }

    private static void silverForMending() {
        LinkedIsles x = Due.isles(TEN + "w5;");
        x.hour(2);
        DUE.is("13: the first of 3", 2, x.mend(0));
        DUE.is("13: the second", 1, x.mend(9));
        DUE.is("13: the third", 0, x.mend(5));
        DUE.is("13: no SILVER", Due.NOT, x.mend(1));
        DUE.is("13: UNKNOWN first", Due.UNKNOWN, x.mend(10));
        DUE.is("13: UNKNOWN first", Due.UNKNOWN, x.mend(-1));
        DUE.is("2: STRAIN of the first", 0, x.link(0, 4));
        DUE.is("2: of the last", 0, x.link(9, 4));
        DUE.is("2: of one that was refused", 10, x.link(1, 4));
        DUE.is("5: SILVER", 0, x.told(5));
        DUE.is("15: earn(1)", 1, x.earn(1));
        DUE.is("13: and it is gone", 0, x.mend(1));
        DUE.is("13: no SILVER", Due.NOT, x.mend(1));
        DUE.is("15: earn(99) from 0", 99, x.earn(99));
        DUE.is("13: mend(2)", 98, x.mend(2));
    }

    private static void silverAtMost() {
        int[] earned = {1, 95, 96, 97, 98, 99};
        int[] due = {4, 98, 99, 99, 99, 99};
        for (int i = 0; i < earned.length; i++) {
            LinkedIsles x = Due.isles("s2;");
            DUE.is("15: earn(" + earned[i] + ") from 3", due[i], x.earn(earned[i]));
            DUE.is("5: told(5)", due[i], x.told(5));
            DUE.is("15: it is a deed", 1, x.told(12));
        }
        LinkedIsles y = Due.isles("s2;");
        int[] outside = {0, -1, 100, 2147483647, -2147483647 - 1};
        for (int n : outside) {
            DUE.is("15: earn(" + n + ")", Due.OUTSIDE, y.earn(n));
            DUE.is("15: earn(" + n + ") without a SEA", Due.OUTSIDE, new LinkedIsles().earn(n));
        }
        DUE.is("5: told(5)", 3, y.told(5));
        DUE.is("15: earn(99) without a SEA", Due.NOT, new LinkedIsles().earn(99));
    }

    private static void heldByKind() {
        LinkedIsles x = Due.isles("s2;l0 1 0 99 0 0;l0 1 1 99 0 0;l0 1 2 99 0 0;l0 1 3 3 0 0;w9;");
        for (int l = 0; l < 3; l++) {
            DUE.is("14: hold(" + l + ", true)", Due.NOT, x.hold(l, true));
            DUE.is("14: hold(" + l + ", false)", Due.NOT, x.hold(l, false));
            DUE.is("6: not HELD", 0, x.link(l, 7));
        }
        DUE.is("14: hold(4, true)", Due.UNKNOWN, x.hold(4, true));
        DUE.is("14: hold(-1, true)", Due.UNKNOWN, x.hold(-1, true));
        DUE.is("14: not any more, and it was not", 0, x.hold(3, false));
        DUE.is("14: hold(3, true)", 0, x.hold(3, true));
        DUE.is("14: hold(3, true) again", 1, x.hold(3, true));
        DUE.is("9: it BREAKS though it is HELD", 7, x.hour(1));
        DUE.is("6: and stays HELD", 1, x.link(3, 7));
        DUE.is("14: what is UNDONE can be let go", 1, x.hold(3, false));
        DUE.is("14: and HELD", 0, x.hold(3, true));
        DUE.is("14: a deed though nothing is otherwise", 6, x.told(12));
    }

    private static void readingEdges() {
        LinkedIsles x = Due.isles("s8;l0 7 0 9 0 9;l7 6 0 9 9 0;w9;");
        DUE.is("7: reads(0, 0)", 0, x.reads(0, 0));
        DUE.is("7: reads(7, 0)", 9, x.reads(7, 0));
        DUE.is("7: reads(7, 1)", 9, x.reads(7, 1));
        DUE.is("7: reads(6, 1)", 0, x.reads(6, 1));
        DUE.is("7: none of its own", Due.NONE, x.reads(6, 0));
        DUE.is("7: none of its own", Due.NONE, x.reads(1, 1));
        x.turn(0);
        DUE.is("7: TURNED, reads(0, 0)", 9, x.reads(0, 0));
        DUE.is("7: TURNED, reads(7, 0)", 0, x.reads(7, 0));
        DUE.is("7: the other one is not", 9, x.reads(7, 1));
        DUE.is("7: reads(8, 0)", Due.UNKNOWN, x.reads(8, 0));
        DUE.is("7: reads(0, 2)", Due.UNKNOWN, x.reads(0, 2));
        x.hour(1);
        DUE.is("7: BROKEN", Due.NONE, x.reads(0, 0));
        DUE.is("7: reads(8, 0), though it is UNDONE", Due.UNKNOWN, x.reads(8, 0));
    }

    /** What is HELD or strained is READ as what is not. */
    private static void readingOfHeld() {
        LinkedIsles x = Due.isles("s2;l0 1 3 9 4 5;w5;");
        x.hold(0, true);
        x.hour(2);
        DUE.is("7: A READS a HELD one", 4, x.reads(0, 0));
        DUE.is("7: B READS a HELD one", 5, x.reads(1, 0));
        x.turn(0);
        DUE.is("7: TURNED, A", 5, x.reads(0, 0));
        DUE.is("7: TURNED, B", 4, x.reads(1, 0));
    }

    private static void clashes() {
        LinkedIsles x = Due.isles("s8;l0 1 0 9 5 1;l0 2 0 9 5 1;l0 3 0 9 5 1;l7 0 0 9 2 6;l7 6 0 9 2 3;");
        DUE.is("2: 0 READS 5, 5, 5, 6, the others one number each", 1, x.told(9));
        x.undoLink(3);
        DUE.is("2: what is UNDONE is not READ", 0, x.told(9));
        x.turn(4);
        DUE.is("2: one LINK alone does not CLASH", 0, x.told(9));
        x.doUp(3);
        DUE.is("2: 7 READS 2 and 3 then", 129, x.told(9));
        x.turn(3);
        x.turn(4);
        DUE.is("2: 0 READS 2, 7 READS 6 and 2", 129, x.told(9));
        LinkedIsles twins = Due.isles("s2;l0 1 0 9 0 9;l1 0 0 9 9 0;");
        DUE.is("2: twins that say the same", 0, twins.told(9));
        twins.turn(1);
        DUE.is("2: one of them TURNED", 3, twins.told(9));
        twins.turn(0);
        DUE.is("2: both of them TURNED", 0, twins.told(9));
        LinkedIsles ring = Due.isles("s8;l0 1 0 9 1 2;l1 2 0 9 1 2;l2 3 0 9 1 2;l3 4 0 9 1 2;l4 5 0 9 1 2;l5 6 0 9 1 2;l6 7 0 9 1 2;l7 0 0 9 1 2;");
        DUE.is("2: all eight", 255, ring.told(9));
    }

    private static void undoneAgainOneByOne() {
        LinkedIsles x = Due.isles("s3;l0 1 0 99 1 2;l1 2 3 99 3 4;w4,1,7;");
        String[] before = new String[9];
        for (int deed = 0; deed < 9; deed++) {
            before[deed] = Due.all(x);
            DUE.is("12 of told: " + deed + " can be undone", deed, x.told(12));
            int done = deed == 0 ? x.hour(1) : deed == 1 ? x.undoLink(0) : deed == 2 ? x.doUp(0) : deed == 3 ? x.turn(1)
                : deed == 4 ? x.mend(0) : deed == 5 ? x.hold(1, true) : deed == 6 ? x.earn(99) : deed == 7 ? x.hold(1, true) : x.mend(0);
            DUE.is("17: the deed " + deed + " is done", 1, done >= 0 ? 1 : 0);
        }
        DUE.is("17: undo(10), one more than there are", Due.NOT, x.undo(10));
        DUE.is("5: told(12)", 9, x.told(12));
        for (int deed = 8; deed >= 0; deed--) {
            DUE.is("17: undo(1) of the deed " + deed, deed > 0 ? 1 : 0, x.undo(1));
            DUE.unchanged("17: the deed " + deed + " undone, so it", before[deed], x);
        }
        DUE.is("17: nothing is left", Due.NOT, x.undo(1));
    }

    private static void undoneAgainAtMost() {
        for (int hours = 28; hours <= 33; hours++) {
            LinkedIsles x = Due.isles("s2;l0 1 0 99 1 2;w1;");
            for (int h = 0; h < hours; h++) {
                x.hour(1);
            }
            int kept = Math.min(hours, 30);
            DUE.is("5: told(12) of " + hours, kept, x.told(12));
            DUE.is("17: undo(" + (kept + 1) + ") of " + hours, kept == 30 ? Due.OUTSIDE : Due.NOT, x.undo(kept + 1));
            DUE.is("17: undo(" + kept + ") of " + hours, hours - kept, x.undo(kept));
            DUE.is("6: STRAIN", hours - kept, x.link(0, 4));
            DUE.is("17: undo(1) then", Due.NOT, x.undo(1));
            DUE.is("5: told(12)", 0, x.told(12));
        }
        LinkedIsles y = Due.isles("s2;");
        int[] outside = {0, -1, 31, 2147483647, -2147483647 - 1};
        for (int n : outside) {
            DUE.is("17: undo(" + n + ")", Due.OUTSIDE, y.undo(n));
            DUE.is("17: undo(" + n + ") without a SEA", Due.OUTSIDE, new LinkedIsles().undo(n));
        }
        DUE.is("17: undo(30) of nothing", Due.NOT, y.undo(30));
        DUE.is("17: undo(1) without a SEA", Due.NOT, new LinkedIsles().undo(1));
    }

    /** Each number of deeds behind each number of HOURS: the oldest that are kept lie anywhere. */
    private static void undoneAgainAll() {
        for (int hours = 1; hours <= 70; hours += 3) {
            for (int n = 1; n <= Math.min(hours, 30); n++) {
                LinkedIsles x = Due.isles("s2;l0 1 0 99 1 2;w1;");
                for (int h = 0; h < hours; h++) {
                    x.hour(1);
                }
                DUE.is("17: undo(" + n + ") of " + hours, hours - n, x.undo(n));
                DUE.is("6: STRAIN", hours - n, x.link(0, 4));
                DUE.is("5: told(12)", Math.min(hours, 30) - n, x.told(12));
                x.turn(0);
                DUE.is("5: one more", Math.min(hours, 30) - n + 1, x.told(12));
                DUE.is("17: undo(1) of the new one", hours - n, x.undo(1));
                DUE.is("6: not TURNED", 0, x.link(0, 6));
            }
        }
    }

    private static void undoneSinceTextOrImage() {
        LinkedIsles x = Due.isles("s2;l0 1 0 99 1 2;w1;");
        x.hour(5);
        Due.feed(x, "s2;x");
        DUE.is("3: a FAULT", -11, x.sea());
        DUE.is("5: told(12) is as it was", 5, x.told(12));
        DUE.is("17: undo(2)", 3, x.undo(2));
        DUE.is("39: keep(2)", Due.UNKNOWN, x.keep(2));
        DUE.is("40: goBack(0)", Due.NOT, x.goBack(0));
        DUE.is("5: told(12) is as it was", 3, x.told(12));
        DUE.is("39: keep(1)", 1, x.keep(1));
        DUE.is("5: nothing can be undone", 0, x.told(12));
        DUE.is("17: undo(1)", Due.NOT, x.undo(1));
        x.hour(4);
        DUE.is("17: undo(5), one more than since the IMAGE", Due.NOT, x.undo(5));
        DUE.is("17: undo(4)", 3, x.undo(4));
        x.hour(4);
        DUE.is("40: goBack(1)", 1, x.goBack(1));
        DUE.is("5: nothing can be undone", 0, x.told(12));
        x.hour(2);
        DUE.is("17: undo(3)", Due.NOT, x.undo(3));
        DUE.is("17: undo(2)", 3, x.undo(2));
        x.hour(2);
        Due.feed(x, "s2;w1;");
        x.sea();
        DUE.is("17: undo(1) behind a text", Due.NOT, x.undo(1));
        x.hour(1);
        DUE.is("17: undo(2)", Due.NOT, x.undo(2));
        DUE.is("17: undo(1)", 0, x.undo(1));
    }

    private static void refusedIsNoDeed() {
        LinkedIsles x = Due.isles("s2;l0 1 0 9 1 2;w9;");
        x.hour(1);
        x.mend(0);
        x.mend(0);
        x.mend(0);
        x.hour(0);
        x.hour(31);
        x.drift(0);
        x.drift(31);
        x.undoLink(0);
        x.undoLink(1);
        x.doUp(1);
        x.turn(1);
        x.mend(0);
        x.mend(1);
        x.hold(0, true);
        x.hold(1, true);
        x.earn(0);
        x.earn(100);
        x.undo(31);
        x.undo(5);
        DUE.is("5: told(12): an HOUR and three that are MENDED", 4, x.told(12));
    }
}
