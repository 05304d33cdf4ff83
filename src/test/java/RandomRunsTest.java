import java.util.Random;

/** Runs of calls by a fixed seed: LinkedIsles and PlainIsles answer alike. */
public final class RandomRunsTest {
    private static final int RUNS = 1500;
    private static final int CALLS = 250;

    private static final Due DUE = new Due("RandomRunsTest");

    public static void main(String[] args) {
        for (int i = 0; i < RUNS; i++) {
            run(i);
        }
        texts();
        DUE.end();
    }

    private static void run(int i) {
        Random r = new Random(1000L + i);
        Both both = new Both(DUE);
        if (i % 50 != 0) {
            both.tell(text(r, i % 10 == 0));
        }
        // A text that lies ready, in part, while other calls are made.
        String waiting = "";
        for (int c = 0; c < CALLS && !both.differs(); c++) {
            int kind = r.nextInt(120);
            if (kind == 0) {
                both.feed(waiting);
                both.sea();
                both.fault();
                waiting = text(r, r.nextBoolean());
            } else if (kind < 4 && !waiting.isEmpty()) {
                int n = r.nextInt(waiting.length() + 1);
                both.feed(waiting.substring(0, n));
                waiting = waiting.substring(n);
            } else {
                both.any(r);
            }
        }
    }

    /** Many texts, most with a letter too many, too few or another one. */
    private static void texts() {
        Random r = new Random(5);
        for (int i = 0; i < 20000; i++) {
            Both both = new Both(DUE);
            both.tell(text(r, i % 8 != 0));
            for (int what = 0; what < 10 && !both.differs(); what++) {
                both.told(what);
            }
        }
    }

    private static String blanks(Random r) {
        return r.nextInt(12) == 0 ? "  ".substring(r.nextInt(2)) : "";
    }

    private static String text(Random r, boolean spoilt) {
        int islands = 2 + r.nextInt(7);
        int links = r.nextInt(8) == 0 ? r.nextInt(3) : 1 + r.nextInt(10);
        int weak = r.nextBoolean() ? 30 : 99;
        StringBuilder s = new StringBuilder("s" + blanks(r) + islands + blanks(r) + ";");
        int windsAt = r.nextInt(links + 1);
        for (int l = 0; l <= links; l++) {
            if (l == windsAt && r.nextInt(8) != 0) {
                s.append('w').append(blanks(r)).append(r.nextInt(10));
                int more = r.nextInt(6) == 0 ? 11 : r.nextInt(5);
                for (int k = 0; k < more; k++) {
                    s.append(blanks(r)).append(',').append(blanks(r)).append(r.nextInt(10));
                }
                s.append(blanks(r)).append(';').append(blanks(r));
            }
            if (l < links) {
                int a = r.nextInt(islands);
                int b = (a + 1 + r.nextInt(islands - 1)) % islands;
                s.append('l').append(a).append(' ').append(blanks(r)).append(b).append(' ').append(r.nextInt(4)).append(' ')
                    .append(1 + r.nextInt(weak)).append(' ').append(r.nextInt(r.nextBoolean() ? 3 : 10)).append(' ')
                    .append(r.nextInt(3)).append(blanks(r)).append(';');
            }
        }
        return spoilt ? spoil(s, r) : s.toString();
    }

    private static String spoil(StringBuilder s, Random r) {
        String letters = "sslw;;,, 0123456789x";
        int at = r.nextInt(s.length());
        char c = letters.charAt(r.nextInt(letters.length()));
        switch (r.nextInt(5)) {
            case 0 -> s.deleteCharAt(at);
            case 1 -> s.insert(at, c);
            case 2 -> s.setCharAt(at, c);
            case 3 -> s.setLength(at);
            default -> s.append("l0 1 0 5 1 1;".repeat(r.nextInt(12)));
        }
        return s.toString();
    }
}
