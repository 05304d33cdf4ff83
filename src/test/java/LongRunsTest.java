import java.util.Random;

/**
 * Runs as long as the document promises: 512 calls on one object, with a text of 240 letters, 8 ISLANDS, 10 LINKS and 12 numbers of
 * WINDS; some with answers that are told here, most compared with PlainIsles.
 */
public final class LongRunsTest {
    private static final Due DUE = new Due("LongRunsTest");
    private static final int CALLS = 512, LETTERS = 240;

    public static void main(String[] args) {
        lettersAlone();
        hoursToTheEnd();
        turnsToTheEnd();
        imagesToTheEnd();
        dearestToTheEnd();
        for (int i = 0; i < 150; i++) {
            anyToTheEnd(new Random(7000L + i));
        }
        for (int i = 0; i < 40; i++) {
            twoTexts(new Random(8000L + i));
            twoObjects(new Random(9000L + i));
        }
        DUE.end();
    }

    /** The text with blanks where they may stand, up to 240 letters. */
    private static String wide(String text, Random r) {
        StringBuilder s = new StringBuilder(text);
        for (int i = 0; i < 100000 && s.length() < LETTERS; i++) {
            int at = r.nextInt(s.length() + 1);
            boolean withinNumber = at > 0 && at < s.length() && Character.isDigit(s.charAt(at - 1)) && Character.isDigit(s.charAt(at));
            if (!withinNumber) {
                s.insert(at, ' ');
            }
        }
        return s.toString();
    }

    private static String whole(Random r) {
        StringBuilder s = new StringBuilder("s8;");
        int windsAt = r.nextInt(11);
        for (int l = 0; l <= 10; l++) {
            if (l == windsAt) {
                for (int n = 0; n < 12; n++) {
                    s.append(n == 0 ? "w" : ",").append(r.nextInt(r.nextInt(10) + 1));
                }
                s.append(';');
            }
            if (l < 10) {
                int a = r.nextInt(8);
                int b = (a + 1 + r.nextInt(7)) % 8;
                s.append('l').append(a).append(' ').append(b).append(' ').append(r.nextInt(4)).append(' ')
                    .append(10 + r.nextInt(90)).append(' ').append(r.nextInt(3)).append(' ').append(r.nextInt(3)).append(';');
            }
        }
        return wide(s.toString(), r);
    }

    /** An object whose first 241 calls have told this sea: ten LINKS of gold in a ring with two twins, each of STRENGTH 99. */
    private static LinkedIsles ring(String winds) {
        StringBuilder s = new StringBuilder("s8;");
        for (int l = 0; l < 10; l++) {
            s.append('l').append(l % 8).append(' ').append((l + 1) % 8).append(" 0 99 1 1;");
        }
        String text = wide(s + winds, new Random(1));
        LinkedIsles x = new LinkedIsles();
        for (int i = 0; i < LETTERS; i++) {
            DUE.is("2: the letter " + i, i + 1, x.feed(text.charAt(i)));
        }
        DUE.is("3: sea(), the call 241", 10, x.sea());
        return x;
    }

    /** A text, and once it is full nothing but letters: the 512th is refused as the 241st is. */
    private static void lettersAlone() {
        LinkedIsles x = new LinkedIsles();
        for (int call = 1; call <= CALLS; call++) {
            DUE.is("2: feed(), the call " + call, call <= LETTERS ? call : Due.FULL, x.feed(call % 256));
        }
    }

    /** 270 calls of hour(30): each LINK holds for 99 HOURS of WIND 1, of which eleven in twelve have none. */
    private static void hoursToTheEnd() {
        LinkedIsles x = ring("w0,0,0,0,0,0,0,0,0,0,0,1;");
        for (int call = 242; call < CALLS; call++) {
            int hours = 30 * (call - 241);
            DUE.is("9: hour(30), the call " + call, hours / 12 < 99 ? 1023 : 0, x.hour(30));
        }
        DUE.is("5: told(4), the call 512", 8100, x.told(4));
    }

    /** 270 turns, each the other way than the one ten calls ahead of it; the 512th call undoes thirty of them. */
    private static void turnsToTheEnd() {
        LinkedIsles x = ring("w1,2,3,4,5,6,7,8,9,0,1,2;");
        for (int call = 242; call < CALLS; call++) {
            int n = call - 242;
            DUE.is("12: turn(), the call " + call, n / 10 % 2 == 0 ? 1 : 0, x.turn(n % 10));
        }
        DUE.is("17: undo(30), the call 512", 0, x.undo(30));
    }

    /** An HOUR, its IMAGE, one more HOUR and back, again and again: 67 times and 3 calls more. */
    private static void imagesToTheEnd() {
        LinkedIsles x = ring("w1,0,0,0,0,0,0,0,0,0,0,0;");
        for (int n = 1; n <= 67; n++) {
            DUE.is("9: hour(1)", 1023, x.hour(1));
            DUE.is("39: keep()", 1, x.keep(n % 2));
            DUE.is("9: hour(1)", 1023, x.hour(1));
            DUE.is("40: goBack()", 1, x.goBack(n % 2));
        }
        DUE.is("5: told(4)", 67, x.told(4));
        DUE.is("6: STRAIN", 6, x.link(9, 4));
        DUE.is("17: undo(1), the call 512", Due.NOT, x.undo(1));
    }

    /** What is tried is tried alike, however often: the calls that look at the most sets of LINKS. */
    private static void dearestToTheEnd() {
        LinkedIsles x = ring("w9,9,9,9,9,9,9,9,9,9,9,9;");
        DUE.is("9: hour(10)", 1023, x.hour(10));
        for (int call = 243; call <= CALLS; call += 6) {
            // 90 of 99, so in the next HOUR all BREAK: seven of them keep eight ISLANDS together.
            DUE.is("27: keepUp(1, 0), the call " + call, 7, x.keepUp(1, 0));
            DUE.is("27: keepUp(1, 1)", 127, x.keepUp(1, 1));
            DUE.is("23: between(0, 2, 1): 0 and its twin 8, and 2 on the other side", 1 + 256 + 4, x.between(0, 2, 1));
            DUE.is("28: agree(0)", 0, x.agree(0));
            DUE.is("34: ask()", Due.NONE, x.ask());
            DUE.is("33: traitor(), the call " + (call + 5), 2047, x.traitor());
        }
    }

    private static void anyToTheEnd(Random r) {
        Both both = new Both(DUE);
        both.feed(whole(r));
        both.sea();
        DUE.is("calls for the text", LETTERS + 1, both.calls());
        for (int i = 0; i < 10000 && both.calls() < CALLS && !both.differs(); i++) {
            both.any(r);
        }
        DUE.is("calls in all", CALLS, both.calls());
    }

    private static void twoTexts(Random r) {
        Both both = new Both(DUE);
        both.feed(whole(r));
        both.sea();
        for (int i = 0; i < 15; i++) {
            both.any(r);
        }
        both.feed(whole(r));
        both.sea();
        for (int i = 0; i < 1000 && both.calls() < CALLS && !both.differs(); i++) {
            both.any(r);
        }
        DUE.is("calls in all", CALLS, both.calls());
    }

    /** Two objects by turns: neither has anything of the other. */
    private static void twoObjects(Random r) {
        Both one = new Both(DUE);
        Both other = new Both(DUE);
        String first = whole(r);
        String second = whole(r);
        for (int i = 0; i < LETTERS; i++) {
            one.feed(first.charAt(i));
            other.feed(second.charAt(i));
        }
        one.sea();
        other.sea();
        for (int i = 0; i < 10000 && one.calls() + other.calls() < 2 * CALLS && !one.differs() && !other.differs(); i++) {
            Both next = r.nextBoolean() && one.calls() < CALLS || other.calls() >= CALLS ? one : other;
            next.any(r);
        }
    }
}
