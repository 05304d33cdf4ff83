/** Section 1, promises 2 to 4: the edges of a text's letters, numbers and faults, sentence by sentence. */
public final class TextEdgesTest {
    private static final Due DUE = new Due("TextEdgesTest");
    private static final String LINK = "l0 1 0 9 1 1;";

    public static void main(String[] args) {
        letters();
        lastLetters();
        islands();
        islandsFirstAndOnce();
        linkBounds();
        linksOfLastIslands();
        unlikeIslands();
        tenLinks();
        windNumbers();
        windsUntold();
        figures();
        wordsOfOneLetter();
        blanks();
        sideBySide();
        firstFaultAlone();
        endOfText();
        leastOfFaults();
        emptyText();
        textAfterSea();
        faultOfLatest();
        DUE.end();
    }

    /** An object whose latest text this was; sea() has answered as is due. */
    private static LinkedIsles text(String text, int answer, int fault) {
        LinkedIsles x = new LinkedIsles();
        Due.feed(x, text);
        DUE.is("3: sea() of '" + text + "'", answer, x.sea());
        DUE.is("4: fault() of '" + text + "'", fault, x.fault());
        DUE.is("3: told(3) behind '" + text + "'", 0, x.told(3));
        if (answer < 0) {
            DUE.is("3: no SEA by '" + text + "'", 0, x.told(0));
        }
        return x;
    }

    private static LinkedIsles fine(String text, int links) {
        return text(text, links, Due.NONE);
    }

    private static void letters() {
        LinkedIsles x = new LinkedIsles();
        int[] outside = {-1, 256, -2147483647 - 1, 2147483647, 256 + 's', 's' - 256};
        for (int letter : outside) {
            DUE.is("2: feed(" + letter + ") is OUTSIDE", Due.OUTSIDE, x.feed(letter));
        }
        DUE.is("2: they are not in the text", 0, x.told(3));
        int count = 0;
        for (int letter = 0; letter <= 239; letter++) {
            count++;
            DUE.is("2: feed(" + letter + ")", count, x.feed(letter));
        }
        LinkedIsles y = new LinkedIsles();
        for (int letter = 240; letter <= 255; letter++) {
            DUE.is("2: feed(" + letter + ")", letter - 239, y.feed(letter));
        }
        DUE.is("2: told(3)", 16, y.told(3));
    }

    private static void lastLetters() {
        String whole = "s2;" + " ".repeat(240 - 3 - LINK.length()) + LINK;
        LinkedIsles x = new LinkedIsles();
        Due.feed(x, whole.substring(0, 239));
        DUE.is("2: 239 letters", 239, x.told(3));
        DUE.is("2: the letter 240", 240, x.feed(whole.charAt(239)));
        DUE.is("2: the letter 241", Due.FULL, x.feed('x'));
        DUE.is("2: the letter 242", Due.FULL, x.feed(';'));
        DUE.is("2: told(3)", 240, x.told(3));
        DUE.is("3: all 240 are read, and no more", 1, x.sea());
        DUE.is("2: behind it there is room again", 1, x.feed('s'));
        text("s2;" + " ".repeat(236) + "l", -11, 240);
        text("s2;" + " ".repeat(236) + "x", -11, 239);
        text("s2;" + " ".repeat(236) + "s", -13, 239);
        fine("s2;" + " ".repeat(237), 0);
    }

    private static void islands() {
        for (int n = 2; n <= 8; n++) {
            LinkedIsles x = fine("s" + n + ";", 0);
            DUE.is("5: told(0)", n, x.told(0));
            DUE.is("1: the last of " + n, 1 << n - 1, x.together(n - 1));
            DUE.is("1: one more than " + n, Due.UNKNOWN, x.together(n));
        }
        String[] outside = {"0", "1", "9", "10", "000", "001", "009", "12", "20", "28", "80", "99", "102", "258", "802", "999"};
        for (String n : outside) {
            text("s" + n + ";", -12, 1);
        }
        text("s-2;", -11, 1);
        text("s+2;", -11, 1);
        text("s2.0;", -11, 2);
    }

    private static void islandsFirstAndOnce() {
        text("ws2;", -11, 0);
        text("w1;s2;", -11, 0);
        text("   " + LINK + "s2;", -11, 3);
        text(";s2;", -11, 0);
        text("2;", -11, 0);
        text(",", -11, 0);
        text("s2;s2;", -13, 3);
        text("s2;s", -13, 3);
        text("s2;sx", -13, 3);
        text("s2;" + LINK + "w1;  s3;", -13, 3 + 13 + 3 + 2);
        fine("     s2;", 0);
    }

    /** Six numbers of a link, one of which is another. */
    private static String link(int at, String number) {
        String[] numbers = {"0", "1", "2", "50", "4", "5"};
        numbers[at] = number;
        return "s4;l" + String.join(" ", numbers) + ";";
    }

    private static int placeOf(int at) {
        int[] places = {4, 6, 8, 10, 13, 15};
        return places[at];
    }

    private static void linkBounds() {
        int[] low = {2, 2, 0, 1, 0, 0};
        int[] high = {3, 3, 3, 99, 9, 9};
        int[] what = {0, 1, 2, 3, 8, 9};
        for (int at = 0; at < 6; at++) {
            for (int n = low[at]; n <= high[at]; n++) {
                DUE.is("6: number " + at + " is " + n, n, fine(link(at, "" + n), 1).link(0, what[at]));
            }
            text(link(at, "" + (high[at] + 1)), -12, placeOf(at));
            text(link(at, "999"), -12, placeOf(at));
            text(link(at, "256"), -12, placeOf(at));
            text(link(at, "-1"), -11, placeOf(at));
            text(link(at, "x"), -11, placeOf(at));
            text(link(at, ","), -11, placeOf(at));
            text(link(at, "w"), -11, placeOf(at));
        }
        DUE.is("6: A may be 0", 0, fine(link(0, "0"), 1).link(0, 0));
        DUE.is("6: B may be 0", 0, fine("s4;l3 0 2 50 4 5;", 1).link(0, 1));
        text(link(3, "0"), -12, 10);
        text(link(3, "000"), -12, 10);
        text(link(3, "100"), -12, 10);
    }

    private static void linksOfLastIslands() {
        for (int n = 2; n <= 8; n++) {
            int last = n - 1;
            LinkedIsles x = fine("s" + n + ";l" + last + " 0 0 9 1 1;l0 " + last + " 0 9 1 1;", 2);
            DUE.is("6: A of " + n, last, x.link(0, 0));
            DUE.is("6: B of " + n, last, x.link(1, 1));
            text("s" + n + ";l" + n + " 0 0 9 1 1;", -12, 4);
            text("s" + n + ";l0 " + n + " 0 9 1 1;", -12, 6);
            text("s" + n + ";l0  00" + n + " 0 9 1 1;", -12, 7);
        }
        text("s8;l9 9 0 9 1 1;", -12, 4);
    }

    private static void unlikeIslands() {
        for (int a = 0; a < 8; a++) {
            text("s8;l" + a + " " + a + " 0 9 1 1;", -14, 6);
            text("s8;l" + a + "   00" + a + " 0 9 1 1;", -14, 8);
            text("s8;l0" + a + " " + a + "x", -14, 7);
        }
        text("s2;l1 1", -14, 6);
        text("s2;l1 1 9 0 99 99;", -14, 6);
        fine("s2;l0 1 0 9 1 1;l1 0 0 9 1 1;l0 1 0 9 1 1;", 3);
    }

    private static void tenLinks() {
        String nine = "s2;" + LINK.repeat(9);
        fine(nine, 9);
        fine(nine + LINK, 10);
        int full = 3 + 10 * LINK.length();
        text(nine + LINK + LINK, -13, full);
        text(nine + LINK + "l", -13, full);
        text(nine + LINK + "  lx", -13, full + 2);
        text(nine + LINK + "l0 0", -13, full);
        text(nine + LINK + "w1;l", -13, full + 3);
        text(nine + LINK + "x", -11, full);
        fine(nine + "w1;" + LINK, 10);
        LinkedIsles x = Due.isles(nine + LINK);
        DUE.is("6: the tenth is there", 9, x.link(9, 3));
        DUE.is("6: an eleventh is not", Due.UNKNOWN, x.link(10, 3));
        DUE.is("5: all ten are DONE UP", 1023, x.told(7));
    }

    private static String winds(int count) {
        StringBuilder s = new StringBuilder("w");
        for (int i = 0; i < count; i++) {
            s.append(i == 0 ? "" : ",").append((i + 3) % 10);
        }
        return s.toString();
    }

    private static void windNumbers() {
        for (int count = 1; count <= 12; count++) {
            LinkedIsles x = fine("s2;" + winds(count) + ";", 0);
            DUE.is("5: told(2)", count, x.told(2));
            for (int n = 0; n <= 60; n++) {
                DUE.is("8: wind(" + n + ") of " + count, (n % count + 3) % 10, x.wind(n));
            }
        }
        text("s2;" + winds(13) + ";", -11, 3 + 1 + 23);
        text("s2;" + winds(14) + ";", -11, 3 + 1 + 23);
        text("s2;" + winds(12) + ",;", -11, 3 + 1 + 23);
        text("s2;" + winds(12) + ",", -11, 3 + 1 + 23);
        text("s2;" + winds(12) + " ,99", -11, 3 + 1 + 24);
        text("s2;" + winds(12), -11, 3 + 1 + 23);
        text("s2;w;", -11, 4);
        text("s2;w,1;", -11, 4);
        text("s2;w1,,1;", -11, 6);
        for (int n = 0; n <= 9; n++) {
            DUE.is("8: a wind of " + n, n, fine("s2;w" + n + ";", 0).wind(0));
        }
        text("s2;w10;", -12, 4);
        text("s2;w010;", -12, 4);
        text("s2;w256;", -12, 4);
        text("s2;" + winds(11) + ",10;", -12, 3 + 1 + 22);
        text("s2;w1;w1;", -13, 6);
        text("s2;w1;w", -13, 6);
        text("s2;w1;" + LINK + " w", -13, 6 + 13 + 1);
    }

    private static void windsUntold() {
        LinkedIsles x = fine("s2;l0 1 0 1 1 1;l0 1 1 1 1 1;l0 1 2 1 1 1;l0 1 3 1 1 1;", 4);
        for (int n = 0; n <= 60; n++) {
            DUE.is("8: wind(" + n + ") untold", 0, x.wind(n));
        }
        DUE.is("9: nothing breaks without wind", 15, x.hour(30));
        for (int l = 0; l < 4; l++) {
            DUE.is("9: no STRAIN without wind", 0, x.link(l, 4));
            DUE.is("18: it lasts", Due.NONE, x.lasts(l));
        }
    }

    private static void figures() {
        for (int at = 0; at < 6; at++) {
            String one = at == 0 ? "2" : at == 1 ? "3" : "1";
            fine(link(at, one), 1);
            fine(link(at, "0" + one), 1);
            fine(link(at, "00" + one), 1);
            text(link(at, "000" + one), -12, placeOf(at));
            text(link(at, "0000000" + one), -12, placeOf(at));
            text(link(at, "429496729" + (6 + one.charAt(0) - '0')), -12, placeOf(at));
        }
        fine("s002;w003,004;", 0);
        text("s0002;", -12, 1);
        text("s0002", -12, 1);
        text("s4294967298;", -12, 1);
        text("s18446744073709551618;", -12, 1);
        text("s2;w0003;", -12, 4);
        text("s2;w003,0004;", -12, 8);
        text("s/;", -11, 1);
        text("s:;", -11, 1);
        text("s2/;", -11, 2);
        text("s2:;", -11, 2);
        text("s" + (char) ('2' + 128) + ";", -11, 1);
    }

    private static void wordsOfOneLetter() {
        text("ss2;", -11, 1);
        text("sl2;", -11, 1);
        text("s2;ll0 1 0 9 1 1;", -11, 4);
        text("s2;ww1;", -11, 4);
        text("s2;w1w;", -11, 5);
        text("s2l0 1 0 9 1 1;", -11, 2);
        text("sea2;", -11, 1);
        text("S2;", -11, 0);
        text("s2;L0 1 0 9 1 1;", -11, 3);
        text("s2;W1;", -11, 3);
        for (int letter = 0; letter <= 255; letter++) {
            boolean isWord = letter == 's' || letter == 'l' || letter == 'w';
            if (letter != ' ') {
                text("" + (char) letter, -11, letter == 's' ? 1 : 0);
                text("s2;w1;" + (char) letter, letter == 'w' || letter == 's' ? -13 : -11, isWord && letter == 'l' ? 7 : 6);
            }
        }
    }

    private static void blanks() {
        LinkedIsles x = fine("  s  3  ;  l  0  1  2  30  4  5  ;  w  6  ,  7  ;  ", 1);
        int[] due = {0, 1, 2, 30, 0, 1, 0, 0, 4, 5};
        for (int what = 0; what < due.length; what++) {
            DUE.is("6: link(0, " + what + ") with blanks", due[what], x.link(0, what));
        }
        DUE.is("8: a wind with blanks", 7, x.wind(1));
        fine("s3;l0 1 2 30 4 5;w6,7;", 1);
        text("s2;l0 1 0 2 0 1 1;", -11, 16);
        text("s2;w1 0;", -11, 6);
        text("s2;w1, 0 0;", -11, 9);
        char[] others = {0, 9, 10, 11, 12, 13, 31, 33, 127, 133, 160, 255};
        for (char other : others) {
            text(other + "s2;", -11, 0);
            text("s" + other + "2;", -11, 1);
            text("s2" + other + ";", -11, 2);
            text("s2;" + other, -11, 3);
            text("s2;l0" + other + "1 0 9 1 1;", -11, 5);
            text("s2;w1" + other + ",2;", -11, 5);
        }
    }

    private static void sideBySide() {
        text("s8;l01 0 3 1 1;", -11, 14);
        text("s8;l01 0 9 1 1;", -12, 9);
        text("s8;l0 10 9 1 1;", -12, 6);
        text("s8;l0 1 09 1 1;", -12, 8);
        text("s8;l0 1 0 911;", -12, 10);
        text("s8;l0 1 0 9 11;", -12, 12);
        text("s8;l0 1 0 9 1;", -11, 13);
        DUE.is("6: two figures are one NUMBER", 91, fine("s8;l0 1 0 91 1 1;", 1).link(0, 3));
    }

    private static void firstFaultAlone() {
        text("s9;x", -12, 1);
        text("s9 9", -12, 1);
        text("s2;s9;x", -13, 3);
        text("s2;l0 0 9 0 99 99", -14, 6);
        text("s2;l0 2 x", -12, 6);
        text("s2;l0 1 4 0 10 10;", -12, 8);
        text("s2;l0 1 3 0 10 10;", -12, 10);
        text("s2;l0 1 3 1 10 10;", -12, 12);
        text("s2;l0 1 3 1 9 10;", -12, 14);
        text("s2;w10,x", -12, 4);
        text("xs9;", -11, 0);
        text("s2;x" + LINK.repeat(11), -11, 3);
    }

    private static void endOfText() {
        String whole = "s3;l0 1 2 30 4 5;w6,7;";
        for (int n = 0; n <= whole.length(); n++) {
            String part = whole.substring(0, n);
            boolean ends = n == 0 || part.endsWith(";");
            text(part, ends ? (n < 17 ? 0 : 1) : -11, ends ? Due.NONE : n);
            text(part + "  ", ends ? (n < 17 ? 0 : 1) : -11, ends ? Due.NONE : n + 2);
        }
    }

    private static void leastOfFaults() {
        // A NUMBER of four figures where none can stand: 1 and 2.
        text("2222", -11, 0);
        text("s2;2222", -11, 3);
        text("s2 2222;", -11, 3);
        text("s2;w1 2222;", -11, 6);
        text("s2;l0 1 0 9 1 1 2222;", -11, 16);
        // A B of four figures that is like A: 2 and 4.
        text("s2;l1 0001 0 9 1 1;", -12, 6);
        text("s2;l0 0000 0 9 1 1;", -12, 6);
        // Words that come first and again: 1 and 3.
        text("w", -11, 0);
        text("l", -11, 0);
    }

    private static void emptyText() {
        LinkedIsles x = fine("", 0);
        for (int what = 0; what <= 12; what++) {
            DUE.is("5: told(" + what + ") without a SEA", 0, x.told(what));
        }
        LinkedIsles y = Due.isles("s2;" + LINK + "w5;");
        y.hour(1);
        y.hear(0, 1, true);
        y.write(0, 1);
        y.keep(0);
        y.hour(1);
        y.seed(8);
        DUE.is("3: an empty text behind a SEA", 0, y.sea());
        for (int what = 0; what <= 12; what++) {
            DUE.is("5: told(" + what + ") when the SEA is gone", 0, y.told(what));
        }
        DUE.is("6: no LINK", Due.UNKNOWN, y.link(0, 0));
        DUE.is("22: no ISLAND", Due.UNKNOWN, y.together(0));
        DUE.is("8: no WIND", Due.NOT, y.wind(0));
        DUE.is("15: no SILVER", Due.NOT, y.earn(1));
        DUE.is("40: no IMAGE", Due.NOT, y.goBack(0));
        DUE.is("3: THE SEED stays", 8, y.seed(0));
        Due.feed(y, "s2;" + LINK);
        DUE.is("3: a SEA again", 1, y.sea());
        DUE.is("5: its SILVER", 3, y.told(5));
    }

    private static void textAfterSea() {
        LinkedIsles x = new LinkedIsles();
        Due.feed(x, "x".repeat(240));
        DUE.is("3: a text with a FAULT", -11, x.sea());
        DUE.is("3: is empty then", 0, x.told(3));
        DUE.is("3: so that this is the first letter", 1, x.feed('s'));
        Due.feed(x, "2;");
        DUE.is("3: nothing of it is left", 0, x.sea());
        DUE.is("3: and this text is empty, too", 0, x.told(3));
        DUE.is("5: told(0)", 2, x.told(0));
        DUE.is("3: sea() again: an empty text", 0, x.sea());
        DUE.is("5: told(0)", 0, x.told(0));
    }

    private static void faultOfLatest() {
        LinkedIsles x = new LinkedIsles();
        DUE.is("4: no sea() yet", Due.NONE, x.fault());
        Due.feed(x, "s2;x");
        DUE.is("4: not read yet", Due.NONE, x.fault());
        DUE.is("3: sea()", -11, x.sea());
        DUE.is("4: the letter", 3, x.fault());
        Due.feed(x, "s9");
        DUE.is("4: still the one of the latest sea()", 3, x.fault());
        DUE.is("3: sea()", -12, x.sea());
        DUE.is("4: another", 1, x.fault());
        DUE.is("3: sea() of an empty text", 0, x.sea());
        DUE.is("4: none", Due.NONE, x.fault());
        x.feed('w');
        DUE.is("3: sea()", -11, x.sea());
        DUE.is("4: the first letter is 0", 0, x.fault());
    }
}
