/** Promises 1 to 8: a new object, the text and its faults, what was told. */
public final class SeaTest {
    private static final Due DUE = new Due("SeaTest");
    private static final String FIVE = "s5;l0 1 0 20 3 4;l1 2 1 12 5 6;l2 0 2 9 7 8;l2 3 3 15 9 0;w4,7,2;";

    public static void main(String[] args) {
        newObject();
        feeding();
        faults();
        seaAndFault();
        seaBeginsAnew();
        toldOfAll();
        linkOfAll();
        reading();
        winds();
        DUE.end();
    }

    private static void newObject() {
        LinkedIsles x = new LinkedIsles();
        for (int what = 0; what <= 12; what++) {
            DUE.is("1: told(" + what + ")", 0, x.told(what));
        }
        DUE.is("1: fault()", Due.NONE, x.fault());
        DUE.is("1: link(0, 0)", Due.UNKNOWN, x.link(0, 0));
        DUE.is("1: reads(0, 0)", Due.UNKNOWN, x.reads(0, 0));
        DUE.is("1: together(0)", Due.UNKNOWN, x.together(0));
        DUE.is("1: seed(0)", 0, x.seed(0));
        DUE.is("1: goBack(0)", Due.NOT, x.goBack(0));
        DUE.is("1: undo(1)", Due.NOT, x.undo(1));
        DUE.is("1: traitor()", 1024, x.traitor());
        DUE.is("1: ask()", Due.NONE, x.ask());
        DUE.is("1: judge()", Due.NONE, x.judge());
        DUE.is("1: tear()", 0, x.tear());
        DUE.is("1: parts(0)", 0, x.parts(0));
        DUE.is("1: still(60)", 0, x.still(60));
        DUE.is("1: first(0)", Due.NONE, x.first(0));
        DUE.is("1: keepUp(60, 0)", 0, x.keepUp(60, 0));
        DUE.is("1: agree(0)", 0, x.agree(0));
        DUE.is("1: fold(NONE)", 0, x.fold(Due.NONE));
        DUE.is("1: share(7, 0)", 7, x.share(7, 0));
    }

    private static void feeding() {
        LinkedIsles x = new LinkedIsles();
        DUE.is("2: feed(-1)", Due.OUTSIDE, x.feed(-1));
        DUE.is("2: feed(256)", Due.OUTSIDE, x.feed(256));
        DUE.is("2: told(3)", 0, x.told(3));
        DUE.is("2: feed(0)", 1, x.feed(0));
        DUE.is("2: feed(255)", 2, x.feed(255));
        for (int i = 3; i <= 240; i++) {
            DUE.is("2: the letter " + i, i, x.feed('s'));
        }
        DUE.is("2: the letter 241", Due.FULL, x.feed('s'));
        DUE.is("2: feed(256) of several", Due.OUTSIDE, x.feed(256));
        DUE.is("2: told(3) when full", 240, x.told(3));
        x.sea();
        DUE.is("2: feed behind sea()", 1, x.feed('s'));
    }

    /** A text, what sea() answers, what fault() answers. */
    private static void text(String text, int answer, int fault) {
        LinkedIsles x = new LinkedIsles();
        Due.feed(x, text);
        DUE.is("3: sea() of '" + text + "'", answer, x.sea());
        DUE.is("4: fault() of '" + text + "'", fault, x.fault());
        DUE.is("3: told(3) behind sea() of '" + text + "'", 0, x.told(3));
    }

    private static void faults() {
        fine("", 0);
        fine("   ", 0);
        fine("s2;", 0);
        fine("s8;", 0);
        fine("s002;", 0);
        fine(" s 3 ; l 0 1 0 5 1 2 ; w 1 , 2 ; ", 1);
        fine("s2;l0 1 0 1 0 0;l1 0 3 99 9 9;", 2);
        fine("s2;w0,1,2,3,4,5,6,7,8,9,0,1;l0 1 0 1 0 0;", 1);
        fine("s2;l000 001 003 099 009 009;", 1);
        islandFaults();
        linkFaults();
        windFaults();
        manyLinks();
    }

    private static void fine(String text, int links) {
        text(text, links, Due.NONE);
    }

    private static void islandFaults() {
        text("s", -11, 1);
        text("s;", -11, 1);
        text("s2", -11, 2);
        text("s2  ", -11, 4);
        text("s1;", -12, 1);
        text("s9;", -12, 1);
        text("s0002;", -12, 1);
        text("s1 2;", -12, 1);
        text("s2 2;", -11, 3);
        text("s2 2222;", -11, 3);
        text("s2x", -11, 2);
        text("s9x", -12, 1);
        text("S2;", -11, 0);
        text("x", -11, 0);
        text("5", -11, 0);
        text(";", -11, 0);
        text("  w1;", -11, 2);
        text("l0 1 0 1 0 0;", -11, 0);
        text("s2;;", -11, 3);
        text("s2;5", -11, 3);
        text("s2;x", -11, 3);
        text("s2; s2;", -13, 4);
        text("s2;" + (char) 0, -11, 3);
        text("s2;" + (char) 9, -11, 3);
        text("s2;" + (char) 255, -11, 3);
        text((char) 9 + "s2;", -11, 0);
    }

    private static void linkFaults() {
        text("s2;l", -11, 4);
        text("s2;l;", -11, 4);
        text("s2;l2 0 0 1 0 0;", -12, 4);
        text("s2;l0 1;", -11, 7);
        text("s2;l0 s", -11, 6);
        text("s2;l0,1", -11, 5);
        text("s2;l0 2 0 1 0 0;", -12, 6);
        text("s2;l0 0 0 1 0 0;", -14, 6);
        text("s2;l1 01 0 1 0 0;", -14, 6);
        text("s2;l1  1x", -14, 7);
        text("s2;l0 0000 0 1 0 0;", -12, 6);
        text("s2;l0 1 4 1 0 0;", -12, 8);
        text("s2;l0 1 0 0 0 0;", -12, 10);
        text("s2;l0 1 0 100 0 0;", -12, 10);
        text("s2;l0 1 0 1 10 0;", -12, 12);
        text("s2;l0 1 0 1 0 10;", -12, 14);
        text("s2;l0 1 0 1 0 0", -11, 15);
        text("s2;l0 1 0 1 0 0 ", -11, 16);
        text("s2;l0 1 0 1 0 0 0;", -11, 16);
        text("s2;l0 1 0 1 0 0 9999;", -11, 16);
        text("s2;l01 0 1 5 0;", -11, 14);
    }

    private static void windFaults() {
        text("s2;w", -11, 4);
        text("s2;w;", -11, 4);
        text("s2;w1,;", -11, 6);
        text("s2;w1,", -11, 6);
        text("s2;w1", -11, 5);
        text("s2;w1 2;", -11, 6);
        text("s2;w10;", -12, 4);
        text("s2;w1,10;", -12, 6);
        text("s2;w1,0001;", -12, 6);
        text("s2;w1;w2;", -13, 6);
        text("s2;w1;s2;", -13, 6);
        text("s2;w0,1,2,3,4,5,6,7,8,9,0,1,2;", -11, 27);
        text("s2;w0,1,2,3,4,5,6,7,8,9,0,1 , 2;", -11, 28);
    }

    private static void manyLinks() {
        StringBuilder s = new StringBuilder("s2;");
        for (int i = 0; i < 10; i++) {
            s.append("l0 1 0 9 1 1;");
        }
        text(s.toString(), 10, Due.NONE);
        text(s + "w1;", 10, Due.NONE);
        text(s + "l0 1 0 9 1 1;", -13, 133);
        text(s + " l", -13, 134);
    }

    private static void seaAndFault() {
        LinkedIsles x = Due.isles(FIVE);
        x.hour(1);
        x.mend(1);
        x.seed(77);
        x.keep(1);
        x.turn(0);
        x.hear(0, 1, true);
        x.write(0, 0);
        String before = Due.all(x);
        Due.feed(x, "s2;l0 0");
        DUE.is("3: sea() with a fault", -14, x.sea());
        DUE.is("4: fault() of it", 6, x.fault());
        DUE.is("3: all but fault() is as it was", 1, before.substring(0, before.lastIndexOf(' ')).equals(Due.all(x).substring(0, Due.all(x).lastIndexOf(' '))) ? 1 : 0);
        DUE.is("3: goBack(1) with a fault between", 1, x.goBack(1));
        Due.feed(x, "s2;");
        DUE.is("3: sea() without", 0, x.sea());
        DUE.is("4: fault() is gone", Due.NONE, x.fault());
    }

    private static void seaBeginsAnew() {
        LinkedIsles x = Due.isles(FIVE);
        x.seed(77);
        x.hold(3, true);
        x.turn(0);
        x.hour(30);
        x.earn(9);
        x.keep(0);
        x.turn(1);
        x.hear(0, 1, true);
        x.write(0, 0);
        Due.feed(x, FIVE);
        DUE.is("3: sea() again", 4, x.sea());
        DUE.is("3: told(4)", 0, x.told(4));
        DUE.is("3: told(5)", 3, x.told(5));
        DUE.is("3: told(6)", 0, x.told(6));
        DUE.is("3: told(7)", 15, x.told(7));
        DUE.is("3: told(10)", 0, x.told(10));
        DUE.is("3: told(11)", 0, x.told(11));
        DUE.is("3: told(12)", 0, x.told(12));
        for (int l = 0; l < 4; l++) {
            DUE.is("3: STRAIN", 0, x.link(l, 4));
            DUE.is("3: TURNED", 0, x.link(l, 6));
            DUE.is("3: HELD", 0, x.link(l, 7));
        }
        DUE.is("3: goBack(0)", Due.NOT, x.goBack(0));
        DUE.is("3: the seed stays", 77, x.seed(78));
        DUE.is("3: sea() of an empty text", 0, x.sea());
        DUE.is("3: no islands", 0, x.told(0));
        DUE.is("3: no silver", 0, x.told(5));
        DUE.is("3: no links", 0, x.told(7));
        DUE.is("3: hour(1) without a sea", Due.NOT, x.hour(1));
        DUE.is("3: the seed stays", 78, x.seed(0));
    }

    private static void toldOfAll() {
        LinkedIsles x = Due.isles(FIVE);
        Due.feed(x, "s2");
        x.hour(2);
        x.mend(0);
        x.turn(1);
        x.hear(0, 1, true);
        x.write(0, 1);
        x.write(0, 1);
        // Winds 4, 7: gold 11; silk 0, then 14: it breaks; a chain 2 and 3; a stud 11.
        int[] due = {5, 4, 3, 2, 2, 2, 1, 13, 13, 5, 1, 2, 4};
        for (int what = 0; what < due.length; what++) {
            DUE.is("5: told(" + what + ")", due[what], x.told(what));
        }
        DUE.is("5: told(-1)", Due.OUTSIDE, x.told(-1));
        DUE.is("5: told(13)", Due.OUTSIDE, x.told(13));
        DUE.is("5: winds untold", 0, Due.isles("s2;").told(2));
        LinkedIsles ring = Due.isles("s4;l0 1 0 9 1 1;l1 2 0 9 1 1;l2 0 0 9 1 1;l2 3 0 9 1 1;");
        DUE.is("5: alone in a ring with a tail", 8, ring.told(8));
        ring.undoLink(0);
        DUE.is("5: alone in a row", 14, ring.told(8));
        LinkedIsles eight = Due.isles("s8;l7 0 0 9 1 2;l7 1 0 9 3 2;");
        DUE.is("5: the last of eight clashes", 128, eight.told(9));
        LinkedIsles twins = Due.isles("s2;l0 1 0 9 1 1;l1 0 0 9 1 1;");
        DUE.is("5: twins are not alone", 0, twins.told(8));
    }

    private static void linkOfAll() {
        LinkedIsles x = Due.isles("s8;l0 1 0 20 3 4;l7 2 3 99 9 8;w5;");
        x.hold(1, true);
        x.hour(1);
        x.turn(1);
        x.undoLink(1);
        int[] first = {0, 1, 0, 20, 5, 1, 0, 0, 3, 4};
        int[] second = {7, 2, 3, 99, 2, 0, 1, 1, 9, 8};
        for (int what = 0; what < 10; what++) {
            DUE.is("6: link(0, " + what + ")", first[what], x.link(0, what));
            DUE.is("6: link(1, " + what + ")", second[what], x.link(1, what));
        }
        DUE.is("6: link(-1, 0)", Due.UNKNOWN, x.link(-1, 0));
        DUE.is("6: link(2, 0)", Due.UNKNOWN, x.link(2, 0));
        DUE.is("6: link(0, -1)", Due.OUTSIDE, x.link(0, -1));
        DUE.is("6: link(0, 10)", Due.OUTSIDE, x.link(0, 10));
        DUE.is("6: link(2, 10), the first", Due.UNKNOWN, x.link(2, 10));
    }

    private static void reading() {
        LinkedIsles x = Due.isles("s3;l2 0 0 20 3 4;l0 1 0 20 5 6;");
        DUE.is("7: reads(2, 0)", 3, x.reads(2, 0));
        DUE.is("7: reads(0, 0)", 4, x.reads(0, 0));
        DUE.is("7: reads(1, 0)", Due.NONE, x.reads(1, 0));
        x.turn(0);
        DUE.is("7: reads(2, 0) turned", 4, x.reads(2, 0));
        DUE.is("7: reads(0, 0) turned", 3, x.reads(0, 0));
        DUE.is("7: reads(0, 1)", 5, x.reads(0, 1));
        x.undoLink(0);
        DUE.is("7: reads(2, 0) undone", Due.NONE, x.reads(2, 0));
        DUE.is("7: reads(3, 0)", Due.UNKNOWN, x.reads(3, 0));
        DUE.is("7: reads(-1, 0)", Due.UNKNOWN, x.reads(-1, 0));
        DUE.is("7: reads(0, 2)", Due.UNKNOWN, x.reads(0, 2));
        DUE.is("7: reads(0, -1)", Due.UNKNOWN, x.reads(0, -1));
    }

    private static void winds() {
        LinkedIsles x = Due.isles("s2;w4,7,2;");
        int[] due = {4, 7, 2, 4, 7, 2};
        for (int n = 0; n < 6; n++) {
            DUE.is("8: wind(" + n + ")", due[n], x.wind(n));
        }
        DUE.is("8: wind(60)", 4, x.wind(60));
        DUE.is("8: wind(61)", Due.OUTSIDE, x.wind(61));
        DUE.is("8: wind(-1)", Due.OUTSIDE, x.wind(-1));
        x.hour(4);
        DUE.is("8: wind(0) behind 4", 7, x.wind(0));
        DUE.is("8: wind(1) behind 4", 2, x.wind(1));
        DUE.is("8: wind(0) untold", 0, Due.isles("s2;").wind(0));
        Due.feed(x, "s2;w9;");
        x.sea();
        Due.feed(x, "s2;");
        x.sea();
        Due.feed(x, "s2;");
        x.sea();
        DUE.is("8: winds of an earlier sea are gone", 0, x.wind(0));
        DUE.is("5: and their number", 0, x.told(2));
        DUE.is("8: wind(0) without a sea", Due.NOT, new LinkedIsles().wind(0));
        DUE.is("8: wind(61) without a sea", Due.OUTSIDE, new LinkedIsles().wind(61));
    }
}
