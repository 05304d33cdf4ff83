/** Section 3, promises 32 to 37: the edges of what was heard, of the traitor, of whom to ask and of the book, sentence by sentence. */
public final class HeardEdgesTest {
    private static final Due DUE = new Due("HeardEdgesTest");
    private static final int LEAST = -2147483647 - 1, MOST = 2147483647;
    private static final int NONE_WAS = 1024;
    private static final String ROW = "s8;l0 1 0 99 1 1;l1 2 0 99 1 1;l2 3 0 99 1 1;l3 4 0 99 1 1;l4 5 0 99 1 1;l5 6 0 99 1 1;l6 7 0 99 1 1;";

    public static void main(String[] args) {
        sixHeard();
        traitorOfAll();
        traitorOfNow();
        traitorOfNothing();
        heardEitherWay();
        askLeast();
        askLast();
        askNone();
        twentyEntries();
        writeRefused();
        judgeByNow();
        tearAll();
        heardIsNoDeed();
        withoutSea();
        DUE.end();
    }

    private static void sixHeard() {
        LinkedIsles x = Due.isles(ROW);
        for (int i = 1; i <= 6; i++) {
            DUE.is("32: HEARD " + i, i, x.hear(0, i, true));
            DUE.is("5: told(10)", i, x.told(10));
        }
        // 0 hangs together with 6, so only the last LINK or none may be.
        DUE.is("33: by six", NONE_WAS + 64, x.traitor());
        DUE.is("32: the seventh", Due.FULL, x.hear(6, 7, false));
        DUE.is("32: the seventh, UNKNOWN first", Due.UNKNOWN, x.hear(6, 8, false));
        DUE.is("32: the seventh, one twice", Due.UNKNOWN, x.hear(6, 6, false));
        DUE.is("5: told(10)", 6, x.told(10));
        DUE.is("33: the seventh is not HEARD", NONE_WAS + 64, x.traitor());
        x.tear();
        for (int i = 1; i <= 5; i++) {
            x.hear(0, i, true);
        }
        DUE.is("33: by five", NONE_WAS + 64 + 32, x.traitor());
        x.hear(6, 7, false);
        DUE.is("33: the sixth counts", 64, x.traitor());
    }

    private static void traitorOfAll() {
        for (int links = 0; links <= 10; links++) {
            LinkedIsles x = Due.isles("s2;" + "l0 1 0 9 1 1;".repeat(links));
            DUE.is("33: nothing HEARD of " + links, NONE_WAS + (1 << links) - 1, x.traitor());
            x.hear(0, 1, true);
            int hanging = links == 0 ? 0 : links == 1 ? NONE_WAS : NONE_WAS + (1 << links) - 1;
            DUE.is("33: they hang together by " + links, hanging, x.traitor());
            x.tear();
            x.hear(1, 0, false);
            DUE.is("33: they do not by " + links, links == 0 ? NONE_WAS : links == 1 ? 1 : 0, x.traitor());
        }
    }

    private static void traitorOfNow() {
        LinkedIsles x = Due.isles("s3;l0 1 0 9 1 1;l1 2 0 5 1 1;w5;");
        x.hear(0, 2, false);
        DUE.is("33: one of two", 3, x.traitor());
        x.hour(1);
        DUE.is("33: what BROKE was not UNDONE at night; all fits", NONE_WAS + 1, x.traitor());
        x.undo(1);
        DUE.is("33: as it was", 3, x.traitor());
        x.undoLink(0);
        x.undoLink(1);
        DUE.is("33: none is DONE UP", NONE_WAS, x.traitor());
        DUE.is("5: nothing is UNDONE by asking", 0, x.told(7));
    }

    private static void traitorOfNothing() {
        LinkedIsles x = Due.isles(ROW);
        x.hear(0, 1, false);
        x.hear(6, 7, false);
        DUE.is("33: two cannot be", 0, x.traitor());
        DUE.is("34: so none is to be asked", Due.NONE, x.ask());
        x.tear();
        x.hear(0, 1, false);
        x.hear(0, 1, true);
        DUE.is("33: nor one thing and its other", 0, x.traitor());
        DUE.is("34: so none is to be asked", Due.NONE, x.ask());
    }

    private static void heardEitherWay() {
        LinkedIsles x = Due.isles(ROW);
        LinkedIsles y = Due.isles(ROW);
        x.hear(2, 5, false);
        y.hear(5, 2, false);
        DUE.is("33: 2 and 5", 4 + 8 + 16, x.traitor());
        DUE.is("33: 5 and 2", 4 + 8 + 16, y.traitor());
        DUE.is("32: the same again", 2, x.hear(5, 2, false));
        DUE.is("33: tells no more", 4 + 8 + 16, x.traitor());
    }

    private static void askLeast() {
        LinkedIsles x = Due.isles(ROW);
        // Seven LINKS and none: four of eight by 0, 4, and by 1, 5, 2, 6 and 3, 7, too.
        DUE.is("34: the least that halves", 4, x.ask());
        x.hear(0, 4, false);
        DUE.is("34: of 0 .. 3", 2, x.ask());
        x.hear(0, 2, true);
        DUE.is("34: of 2, 3: 0 and 3 hang together by the one", 3, x.ask());
        x.hear(0, 3, false);
        DUE.is("33: that one", 4, x.traitor());
        DUE.is("34: nothing is left to ask", Due.NONE, x.ask());
        LinkedIsles y = Due.isles("s4;l2 3 0 9 1 1;l1 2 0 9 1 1;");
        // Of 0, 1 and none: each pair of 1, 2, 3 parts one from two, or two from one.
        DUE.is("34: the greater part is 2 by each", 12, y.ask());
    }

    private static void askLast() {
        LinkedIsles x = Due.isles("s8;l7 6 0 9 1 1;");
        DUE.is("34: the last pair", 67, x.ask());
        x.hear(6, 7, true);
        DUE.is("33: none", NONE_WAS, x.traitor());
        DUE.is("34: is known", Due.NONE, x.ask());
        LinkedIsles ten = Due.isles("s8;" + "l0 1 0 9 1 1;".repeat(9) + "l6 7 0 9 1 1;");
        DUE.is("33: ten and none", 2047, ten.traitor());
        DUE.is("34: the tenth can be told from the others", 67, ten.ask());
        ten.hear(6, 7, false);
        DUE.is("33: the tenth", 512, ten.traitor());
    }

    private static void askNone() {
        DUE.is("34: no LINKS", Due.NONE, Due.isles("s8;").ask());
        DUE.is("34: twins", Due.NONE, Due.isles("s2;l0 1 0 9 1 1;l0 1 0 9 1 1;").ask());
        DUE.is("34: a ring", Due.NONE, Due.isles("s3;l0 1 0 9 1 1;l1 2 0 9 1 1;l2 0 0 9 1 1;").ask());
        LinkedIsles x = Due.isles("s2;l0 1 0 9 1 1;");
        DUE.is("34: one, or none", 1, x.ask());
        x.undoLink(0);
        DUE.is("34: none is DONE UP", Due.NONE, x.ask());
        DUE.is("32: nothing is HEARD by asking", 0, x.told(10));
    }

    private static void twentyEntries() {
        LinkedIsles x = Due.isles("s2;" + "l0 1 0 9 1 1;".repeat(10));
        for (int i = 1; i <= 20; i++) {
            DUE.is("35: the entry " + i, i, x.write((i - 1) % 10, 1));
            DUE.is("5: told(11)", i, x.told(11));
            DUE.is("36: all is so", Due.NONE, x.judge());
        }
        DUE.is("35: the entry 21", Due.FULL, x.write(0, 0));
        DUE.is("35: the entry 21 again", Due.FULL, x.write(9, 1));
        DUE.is("5: told(11)", 20, x.told(11));
        DUE.is("36: it was not written", Due.NONE, x.judge());
        for (int l = 9; l >= 0; l--) {
            x.undoLink(l);
            DUE.is("36: the first that tells of " + l, l, x.judge());
        }
        for (int wrong = 0; wrong < 20; wrong++) {
            x.tear();
            for (int i = 0; i < 20; i++) {
                x.write(i % 10, i < wrong ? 0 : 1);
            }
            DUE.is("36: the first WRONG of 20", wrong, x.judge());
        }
    }

    private static void writeRefused() {
        LinkedIsles x = Due.isles("s2;l0 1 0 9 1 1;l0 1 0 9 1 1;");
        int[] not = {-1, 2, LEAST, MOST};
        for (int n : not) {
            DUE.is("35: write(" + n + ", 1)", Due.UNKNOWN, x.write(n, 1));
            DUE.is("35: write(1, " + n + ")", Due.OUTSIDE, x.write(1, n));
            DUE.is("35: write(" + n + ", " + n + "), UNKNOWN first", Due.UNKNOWN, x.write(n, n));
        }
        DUE.is("5: told(11)", 0, x.told(11));
        for (int i = 0; i < 20; i++) {
            x.write(0, 1);
        }
        DUE.is("35: UNKNOWN ahead of FULL", Due.UNKNOWN, x.write(2, 1));
        DUE.is("35: OUTSIDE ahead of FULL", Due.OUTSIDE, x.write(1, 2));
        DUE.is("35: OUTSIDE ahead of FULL", Due.OUTSIDE, x.write(1, -1));
        DUE.is("35: FULL", Due.FULL, x.write(1, 0));
    }

    private static void judgeByNow() {
        LinkedIsles x = Due.isles("s2;l0 1 0 5 1 1;l0 1 0 9 1 1;w5;");
        DUE.is("36: no BOOK", Due.NONE, x.judge());
        x.write(0, 1);
        x.write(1, 0);
        DUE.is("36: 1 is DONE UP", 1, x.judge());
        x.hour(1);
        DUE.is("36: 0 BROKE", 0, x.judge());
        x.undoLink(1);
        x.mend(0);
        x.doUp(0);
        DUE.is("36: all is so", Due.NONE, x.judge());
        x.undo(1);
        DUE.is("36: 0 is UNDONE again", 0, x.judge());
        x.turn(0);
        DUE.is("36: TURNED or not is not told", 0, x.judge());
    }

    private static void tearAll() {
        LinkedIsles x = Due.isles("s3;l0 1 0 9 1 1;l1 2 0 9 1 1;");
        DUE.is("37: nothing yet", 0, x.tear());
        for (int i = 0; i < 7; i++) {
            x.hear(0, 1, false);
        }
        for (int i = 0; i < 21; i++) {
            x.write(1, 0);
        }
        DUE.is("37: all there can be", 26, x.tear());
        DUE.is("5: told(10)", 0, x.told(10));
        DUE.is("5: told(11)", 0, x.told(11));
        DUE.is("33: nothing is HEARD", NONE_WAS + 3, x.traitor());
        DUE.is("36: no BOOK", Due.NONE, x.judge());
        DUE.is("37: again", 0, x.tear());
        DUE.is("32: there is room", 1, x.hear(0, 1, true));
        DUE.is("35: there is room", 1, x.write(1, 1));
        DUE.is("33: by what is new alone", NONE_WAS + 2, x.traitor());
        DUE.is("36: by what is new alone", Due.NONE, x.judge());
        DUE.is("37: one of both", 2, x.tear());
        x.write(0, 0);
        DUE.is("37: the BOOK alone", 1, x.tear());
        x.hear(0, 2, true);
        DUE.is("37: what was HEARD alone", 1, x.tear());
    }

    private static void heardIsNoDeed() {
        LinkedIsles x = Due.isles(ROW + "w1;");
        x.hour(2);
        x.hear(0, 7, false);
        x.write(3, 0);
        DUE.is("5: told(12)", 2, x.told(12));
        DUE.is("17: undo(2)", 0, x.undo(2));
        DUE.is("5: told(10)", 1, x.told(10));
        DUE.is("5: told(11)", 1, x.told(11));
        x.keep(0);
        x.hear(0, 7, false);
        x.write(3, 0);
        x.goBack(0);
        DUE.is("5: told(10), IMAGES do not keep it", 2, x.told(10));
        DUE.is("5: told(11), IMAGES do not keep it", 2, x.told(11));
        Due.feed(x, "s2;x");
        x.sea();
        DUE.is("5: told(10), a FAULT leaves it", 2, x.told(10));
        DUE.is("5: told(11), a FAULT leaves it", 2, x.told(11));
        DUE.is("33: as it was", 127, x.traitor());
        DUE.is("36: as it was", 0, x.judge());
        Due.feed(x, ROW);
        x.sea();
        DUE.is("5: told(10), a SEA does not", 0, x.told(10));
        DUE.is("5: told(11), a SEA does not", 0, x.told(11));
        DUE.is("33: nothing HEARD", NONE_WAS + 127, x.traitor());
        DUE.is("36: no BOOK", Due.NONE, x.judge());
    }

    private static void withoutSea() {
        LinkedIsles x = new LinkedIsles();
        DUE.is("32: hear(0, 1)", Due.UNKNOWN, x.hear(0, 1, true));
        DUE.is("35: write(0, 1)", Due.UNKNOWN, x.write(0, 1));
        DUE.is("35: write(0, 2)", Due.UNKNOWN, x.write(0, 2));
        DUE.is("33: none", NONE_WAS, x.traitor());
        DUE.is("34: ask()", Due.NONE, x.ask());
        DUE.is("36: judge()", Due.NONE, x.judge());
        DUE.is("37: tear()", 0, x.tear());
    }
}
