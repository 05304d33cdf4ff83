/** Promises 32 to 37: what was heard, the traitor, whom to ask, the book. */
public final class HeardTest {
    private static final Due DUE = new Due("HeardTest");
    /** A ring of 0, 1, 2 and a tail 2, 3, 4. */
    private static final String RING = "s5;l0 1 0 9 1 1;l1 2 0 9 1 1;l2 0 0 9 1 1;l2 3 0 9 1 1;l3 4 0 9 1 1;";

    public static void main(String[] args) {
        hearing();
        traitors();
        asking();
        book();
        judging();
        tearing();
        DUE.end();
    }

    private static void hearing() {
        LinkedIsles x = Due.isles(RING);
        DUE.is("32: hear(0, 5)", Due.UNKNOWN, x.hear(0, 5, true));
        DUE.is("32: hear(-1, 0)", Due.UNKNOWN, x.hear(-1, 0, true));
        DUE.is("32: hear(3, 3)", Due.UNKNOWN, x.hear(3, 3, true));
        DUE.is("32: told(10)", 0, x.told(10));
        for (int i = 1; i <= 6; i++) {
            DUE.is("32: hear() " + i, i, x.hear(0, 1, i % 2 == 0));
        }
        DUE.is("32: hear() 7", Due.FULL, x.hear(0, 1, true));
        DUE.is("32: hear(4, 4) when full", Due.UNKNOWN, x.hear(4, 4, true));
        DUE.is("32: told(10)", 6, x.told(10));
        DUE.is("32: told(12)", 0, x.told(12));
        DUE.is("32: hear() without a sea", Due.UNKNOWN, new LinkedIsles().hear(0, 1, true));
    }

    private static void traitors() {
        LinkedIsles x = Due.isles(RING);
        DUE.is("33: nothing heard", 1024 + 31, x.traitor());
        x.hear(4, 0, false);
        DUE.is("33: the tail", 24, x.traitor());
        x.hear(3, 4, true);
        DUE.is("33: one", 8, x.traitor());
        x.hear(1, 2, false);
        DUE.is("33: nothing fits", 0, x.traitor());
        x.tear();
        x.hear(0, 3, true);
        DUE.is("33: none fits, too", 1024 + 23, x.traitor());
        x.hear(3, 4, true);
        DUE.is("33: all that is heard", 1024 + 7, x.traitor());
        x.tear();
        x.hear(0, 3, true);
        x.undoLink(0);
        DUE.is("33: of those that are done up now", 1024 + 18, x.traitor());
        x.undoLink(2);
        DUE.is("33: it does not hang together now", 0, x.traitor());
        x.tear();
        x.hear(0, 3, false);
        DUE.is("33: none, or any", 1024 + 26, x.traitor());
    }

    private static void asking() {
        LinkedIsles x = Due.isles(RING);
        // Of 6: 0, 4 parts 2 from 4; 0, 3 parts 1 from 5.
        DUE.is("34: ask()", 4, x.ask());
        x.hear(0, 4, false);
        DUE.is("34: ask() of two, the least pair", 3, x.ask());
        x.hear(0, 3, true);
        DUE.is("34: ask() of one", Due.NONE, x.ask());
        x.hear(0, 3, false);
        DUE.is("34: ask() of nothing", Due.NONE, x.ask());
        x.tear();
        x.undoLink(3);
        x.undoLink(4);
        DUE.is("34: a ring is not parted by one", Due.NONE, x.ask());
        LinkedIsles row = Due.isles("s6;l5 4 0 9 1 1;l4 3 0 9 1 1;l3 2 0 9 1 1;l2 1 0 9 1 1;l1 0 0 9 1 1;");
        DUE.is("34: three of a row are half of six", 3, row.ask());
        row.hear(0, 3, true);
        DUE.is("34: of 2 links and none", 4, row.ask());
        DUE.is("34: no links", Due.NONE, Due.isles("s4;").ask());
        LinkedIsles away = Due.isles("s5;l3 4 0 9 1 1;l4 2 0 9 1 1;");
        DUE.is("34: neither of two is the first island", 23, away.ask());
        LinkedIsles side = Due.isles("s5;l3 1 0 9 1 1;");
        DUE.is("34: one link, or none", 13, side.ask());
    }

    private static void book() {
        LinkedIsles x = Due.isles(RING);
        DUE.is("35: write(5, 2)", Due.UNKNOWN, x.write(5, 2));
        DUE.is("35: write(-1, 0)", Due.UNKNOWN, x.write(-1, 0));
        DUE.is("35: write(0, 2)", Due.OUTSIDE, x.write(0, 2));
        DUE.is("35: write(0, -1)", Due.OUTSIDE, x.write(0, -1));
        DUE.is("35: told(11)", 0, x.told(11));
        for (int i = 1; i <= 20; i++) {
            DUE.is("35: write() " + i, i, x.write(i % 5, 1));
        }
        DUE.is("35: write() 21", Due.FULL, x.write(0, 1));
        DUE.is("35: write(0, 2) when full", Due.OUTSIDE, x.write(0, 2));
        DUE.is("35: write(5, 0) when full", Due.UNKNOWN, x.write(5, 0));
        DUE.is("35: told(11)", 20, x.told(11));
        DUE.is("36: judge() of 20", Due.NONE, x.judge());
        x.undoLink(0);
        DUE.is("36: the first of the link 0", 4, x.judge());
        x.tear();
        for (int i = 1; i <= 20; i++) {
            x.write(0, i == 20 ? 1 : 0);
        }
        DUE.is("36: the last", 19, x.judge());
    }

    private static void judging() {
        LinkedIsles x = Due.isles(RING);
        DUE.is("36: no book", Due.NONE, x.judge());
        x.write(3, 1);
        x.write(1, 1);
        x.write(3, 0);
        DUE.is("36: judge()", 2, x.judge());
        x.undoLink(3);
        DUE.is("36: judge()", 0, x.judge());
        x.doUp(3);
        x.undoLink(1);
        DUE.is("36: judge()", 1, x.judge());
    }

    private static void tearing() {
        LinkedIsles x = Due.isles(RING);
        x.hear(0, 3, false);
        x.hear(0, 3, false);
        x.write(0, 0);
        DUE.is("37: tear()", 3, x.tear());
        DUE.is("37: told(10)", 0, x.told(10));
        DUE.is("37: told(11)", 0, x.told(11));
        DUE.is("37: traitor()", 1024 + 31, x.traitor());
        DUE.is("37: judge()", Due.NONE, x.judge());
        DUE.is("37: tear() again", 0, x.tear());
        x.hear(0, 3, true);
        x.write(0, 1);
        DUE.is("37: nothing of what was is left", 1024 + 23, x.traitor());
        DUE.is("37: nor of the book", Due.NONE, x.judge());
    }
}
