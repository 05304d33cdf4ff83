import java.util.Random;

/** Runs of calls by a fixed seed: LinkedIsles and PlainIsles answer alike. */
public final class RandomRunsTest {
    private static final int RUNS = 1500;
    private static final int CALLS = 250;
    private static final String[] NAMES = {
        "feed", "sea", "fault", "told", "link", "reads", "wind", "hour", "undoLink", "doUp", "turn", "mend", "hold", "earn", "drift", "undo",
        "lasts", "first", "still", "parts", "together", "between", "way", "widest", "farthest", "keepUp", "agree", "fold", "share", "calm",
        "hear", "traitor", "ask", "write", "judge", "tear", "seed", "keep", "goBack"};

    private static final Due DUE = new Due("RandomRunsTest");
    private static LinkedIsles x;
    private static PlainIsles y;
    private static StringBuilder run;
    private static boolean differs;

    public static void main(String[] args) {
        for (int i = 0; i < RUNS; i++) {
            Random r = new Random(1000L + i);
            x = new LinkedIsles();
            y = new PlainIsles();
            run = new StringBuilder();
            differs = false;
            if (i % 50 != 0) {
                tell(text(r, i % 10 == 0));
            }
            for (int c = 0; c < CALLS && !differs; c++) {
                if (r.nextInt(120) == 0) {
                    tell(text(r, r.nextBoolean()));
                } else {
                    call(NAMES[3 + r.nextInt(NAMES.length - 3)], r);
                }
            }
        }
        texts();
        DUE.end();
    }

    /** Many texts, most with a letter too many, too few or another one. */
    private static void texts() {
        Random r = new Random(5);
        for (int i = 0; i < 20000; i++) {
            x = new LinkedIsles();
            y = new PlainIsles();
            run = new StringBuilder();
            differs = false;
            tell(text(r, i % 8 != 0));
            for (int what = 0; what < 10 && !differs; what++) {
                check("told(" + what + ")", y.told(what), x.told(what));
            }
        }
    }

    private static void check(String call, int want, int got) {
        run.append(call).append(" = ").append(got).append('\n');
        if (want != got) {
            differs = true;
            System.out.println(run);
        }
        DUE.is(call, want, got);
    }

    private static void tell(String text) {
        run.append(text).append('\n');
        for (int i = 0; i < text.length(); i++) {
            int due = y.feed(text.charAt(i));
            if (due != x.feed(text.charAt(i))) {
                check("feed", due, 0);
            }
        }
        check("sea()", y.sea(), x.sea());
        check("fault()", y.fault(), x.fault());
    }

    private static String blanks(Random r) {
        return r.nextInt(12) == 0 ? "  ".substring(r.nextInt(2)) : "";
    }

    private static String text(Random r, boolean spoilt) {
        int islands = 2 + r.nextInt(7);
        int links = r.nextInt(8) == 0 ? r.nextInt(3) : 1 + r.nextInt(10);
        int weak = r.nextBoolean() ? 30 : 99;
        StringBuilder s = new StringBuilder("s" + blanks(r) + islands + blanks(r) + ";");
        int windsAt = r.nextInt(links + 1);
        for (int l = 0; l <= links; l++) {
            if (l == windsAt && r.nextInt(8) != 0) {
                s.append('w').append(blanks(r)).append(r.nextInt(10));
                int more = r.nextInt(6) == 0 ? 11 : r.nextInt(5);
                for (int k = 0; k < more; k++) {
                    s.append(blanks(r)).append(',').append(blanks(r)).append(r.nextInt(10));
                }
                s.append(blanks(r)).append(';').append(blanks(r));
            }
            if (l < links) {
                int a = r.nextInt(islands);
                int b = (a + 1 + r.nextInt(islands - 1)) % islands;
                s.append('l').append(a).append(' ').append(blanks(r)).append(b).append(' ').append(r.nextInt(4)).append(' ')
                    .append(1 + r.nextInt(weak)).append(' ').append(r.nextInt(r.nextBoolean() ? 3 : 10)).append(' ')
                    .append(r.nextInt(3)).append(blanks(r)).append(';');
            }
        }
        return spoilt ? spoil(s, r) : s.toString();
    }

    private static String spoil(StringBuilder s, Random r) {
        String letters = "sslw;;,, 0123456789x";
        int at = r.nextInt(s.length());
        char c = letters.charAt(r.nextInt(letters.length()));
        switch (r.nextInt(5)) {
            case 0 -> s.deleteCharAt(at);
            case 1 -> s.insert(at, c);
            case 2 -> s.setCharAt(at, c);
            case 3 -> s.setLength(at);
            default -> s.append("l0 1 0 5 1 1;".repeat(r.nextInt(12)));
        }
        return s.toString();
    }

    /** A number that is within bounds for the most part. */
    private static int some(Random r, int low, int high) {
        return r.nextInt(25) == 0 ? (r.nextBoolean() ? low - 1 : high + 1) : low + r.nextInt(high - low + 1);
    }

    private static int island(Random r) {
        return some(r, 0, Math.max(0, y.told(0) - 1));
    }

    private static int aLink(Random r) {
        return some(r, 0, Math.max(0, y.told(1) - 1));
    }

    private static void call(String name, Random r) {
        int a = island(r);
        int b = island(r);
        int l = aLink(r);
        int what = some(r, 0, 1);
        boolean is = r.nextInt(3) != 0;
        int n = some(r, 0, 60);
        int few = some(r, 1, r.nextInt(5) == 0 ? 30 : 3);
        switch (name) {
            case "told" -> { int w = some(r, 0, 12); check("told(" + w + ")", y.told(w), x.told(w)); }
            case "link" -> { int w = some(r, 0, 9); check("link(" + l + ", " + w + ")", y.link(l, w), x.link(l, w)); }
            case "reads" -> check("reads(" + a + ", " + l + ")", y.reads(a, l), x.reads(a, l));
            case "wind" -> check("wind(" + n + ")", y.wind(n), x.wind(n));
            case "hour" -> check("hour(" + few + ")", y.hour(few), x.hour(few));
            case "undoLink" -> check("undoLink(" + l + ")", y.undoLink(l), x.undoLink(l));
            case "doUp" -> check("doUp(" + l + ")", y.doUp(l), x.doUp(l));
            case "turn" -> check("turn(" + l + ")", y.turn(l), x.turn(l));
            case "mend" -> check("mend(" + l + ")", y.mend(l), x.mend(l));
            case "hold" -> check("hold(" + l + ", " + is + ")", y.hold(l, is), x.hold(l, is));
            case "earn" -> { int e = r.nextInt(4) == 0 ? some(r, 1, 99) : 1; check("earn(" + e + ")", y.earn(e), x.earn(e)); }
            case "drift" -> check("drift(" + few + ")", y.drift(few), x.drift(few));
            case "undo" -> check("undo(" + few + ")", y.undo(few), x.undo(few));
            case "lasts" -> check("lasts(" + l + ")", y.lasts(l), x.lasts(l));
            case "first" -> check("first(" + what + ")", y.first(what), x.first(what));
            case "still" -> check("still(" + n + ")", y.still(n), x.still(n));
            case "parts" -> { int p = r.nextBoolean() ? n : few; check("parts(" + p + ")", y.parts(p), x.parts(p)); }
            case "together" -> check("together(" + a + ")", y.together(a), x.together(a));
            case "between" -> check("between(" + a + ", " + b + ", " + what + ")", y.between(a, b, what), x.between(a, b, what));
            case "way" -> check("way(" + a + ", " + b + ", " + what + ")", y.way(a, b, what), x.way(a, b, what));
            case "widest" -> check("widest(" + a + ", " + b + ")", y.widest(a, b), x.widest(a, b));
            case "farthest" -> check("farthest(" + a + ", " + what + ")", y.farthest(a, what), x.farthest(a, what));
            case "keepUp" -> { int k = r.nextInt(4) == 0 ? n : few; check("keepUp(" + k + ", " + what + ")", y.keepUp(k, what), x.keepUp(k, what)); }
            default -> callOther(name, r, a, b, l, what, is);
        }
    }

    private static void callOther(String name, Random r, int a, int b, int l, int what, boolean is) {
        switch (name) {
            case "agree" -> check("agree(" + what + ")", y.agree(what), x.agree(what));
            case "fold" -> { int i = r.nextInt(8) - 2; check("fold(" + i + ")", y.fold(i), x.fold(i)); }
            case "share" -> { int n = r.nextInt(3) == 0 ? some(r, 0, 99) : r.nextInt(8); check("share(" + n + ", " + what + ")", y.share(n, what), x.share(n, what)); }
            case "calm" -> { int n = some(r, 0, 60); int q = some(r, 0, 100); check("calm(" + n + ", " + q + ")", y.calm(n, q), x.calm(n, q)); }
            case "hear" -> check("hear(" + a + ", " + b + ", " + is + ")", y.hear(a, b, is), x.hear(a, b, is));
            case "traitor" -> check("traitor()", y.traitor(), x.traitor());
            case "ask" -> check("ask()", y.ask(), x.ask());
            case "write" -> check("write(" + l + ", " + what + ")", y.write(l, what), x.write(l, what));
            case "judge" -> check("judge()", y.judge(), x.judge());
            case "tear" -> { if (r.nextInt(4) == 0) { check("tear()", y.tear(), x.tear()); } }
            case "seed" -> { int v = r.nextInt(10) == 0 ? -r.nextInt(9) : r.nextInt() >>> 1; check("seed(" + v + ")", y.seed(v), x.seed(v)); }
            case "keep" -> { int i = some(r, 0, 1); check("keep(" + i + ")", y.keep(i), x.keep(i)); }
            case "goBack" -> { int i = some(r, 0, 1); check("goBack(" + i + ")", y.goBack(i), x.goBack(i)); }
            default -> throw new IllegalStateException(name);
        }
    }
}
