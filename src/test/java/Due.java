/** Counts answers that are as due, prints those that are not, and ends a test with exit code 1 if there was one. */
final class Due {
    static final int NONE = -1, UNKNOWN = -1000000001, OUTSIDE = -1000000002, NOT = -1000000003, FULL = -1000000004;

    private final String name;
    private int passed = 0;
    private int failed = 0;

    Due(String name) {
        this.name = name;
    }

    void is(String call, long want, long got) {
        if (got == want) {
            passed++;
        } else {
            failed++;
            System.out.println(name + ": " + call + " answered " + got + ", due is " + want);
        }
    }

    void end() {
        System.out.println(name + ": " + passed + " passed, " + failed + " failed");
        if (failed != 0) {
            System.exit(1);
        }
    }

    static void feed(LinkedIsles x, String text) {
        for (int i = 0; i < text.length(); i++) {
            x.feed(text.charAt(i));
        }
    }

    /** A new object with this sea, whose text has no fault. */
    static LinkedIsles isles(String text) {
        LinkedIsles x = new LinkedIsles();
        feed(x, text);
        if (x.sea() < 0) {
            throw new IllegalStateException("a fault in " + text);
        }
        return x;
    }

    /** All that can be seen of an object, but for what sea() and fault() tell: two like texts, nothing has changed. */
    static String all(LinkedIsles x) {
        StringBuilder s = new StringBuilder();
        for (int what = 0; what <= 12; what++) {
            s.append(x.told(what)).append(' ');
        }
        for (int l = 0; l < x.told(1); l++) {
            for (int what = 0; what <= 9; what++) {
                s.append(x.link(l, what)).append(' ');
            }
        }
        int seed = x.seed(0);
        x.seed(seed);
        return s.append(seed).append(' ').append(x.traitor()).append(' ').append(x.judge()).append(' ').append(x.fault()).toString();
    }

    void unchanged(String call, String before, LinkedIsles x) {
        String after = all(x);
        is(call + " changes nothing" + (before.equals(after) ? "" : ": " + before + " -> " + after), 1, before.equals(after) ? 1 : 0);
    }
}
