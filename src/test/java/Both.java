import java.util.Random;

/** LinkedIsles and PlainIsles side by side: each call is made of both, and both answer alike. */
final class Both {
    private static final String[] NAMES = {
        "told", "link", "reads", "wind", "hour", "undoLink", "doUp", "turn", "mend", "hold", "earn", "drift", "undo",
        "lasts", "first", "still", "parts", "together", "between", "way", "widest", "farthest", "keepUp", "agree", "fold", "share", "calm",
        "hear", "traitor", "ask", "write", "judge", "tear", "seed", "keep", "goBack", "fault"};

    private final Due due;
    private final LinkedIsles x = new LinkedIsles();
    private final PlainIsles y = new PlainIsles();
    private final StringBuilder run = new StringBuilder();
    private boolean differs = false;
    private int calls = 0;

    Both(Due due) {
        this.due = due;
    }

    /** Whether they once answered otherwise: what comes then says nothing any more. */
    boolean differs() {
        return differs;
    }

    /** How many calls the object has had. */
    int calls() {
        return calls;
    }

    private void check(String call, int want, int got) {
        calls++;
        run.append(call).append(" = ").append(got).append('\n');
        if (want != got && !differs) {
            differs = true;
            System.out.println(run);
        }
        due.is(call + ", the call " + calls, want, got);
    }

    void feed(int letter) {
        int want = y.feed(letter);
        int got = x.feed(letter);
        calls++;
        if (want != got) {
            calls--;
            check("feed(" + letter + ")", want, got);
        }
    }

    void feed(String text) {
        run.append("feed '").append(text).append("'\n");
        for (int i = 0; i < text.length(); i++) {
            feed(text.charAt(i));
        }
    }

    void sea() {
        check("sea()", y.sea(), x.sea());
    }

    void fault() {
        check("fault()", y.fault(), x.fault());
    }

    void tell(String text) {
        feed(text);
        sea();
        fault();
    }

    void told(int what) {
        check("told(" + what + ")", y.told(what), x.told(what));
    }

    /** A number that is within bounds for the most part. */
    static int some(Random r, int low, int high) {
        return r.nextInt(25) == 0 ? (r.nextBoolean() ? low - 1 : high + 1) : low + r.nextInt(high - low + 1);
    }

    private int island(Random r) {
        return some(r, 0, Math.max(0, y.told(0) - 1));
    }

    private int aLink(Random r) {
        return some(r, 0, Math.max(0, y.told(1) - 1));
    }

    /** One call of any name but feed() and sea(). */
    void any(Random r) {
        call(NAMES[r.nextInt(NAMES.length)], r);
    }

    private void call(String name, Random r) {
        int a = island(r);
        int b = island(r);
        int l = aLink(r);
        int what = some(r, 0, 1);
        boolean is = r.nextInt(3) != 0;
        int n = some(r, 0, 60);
        int few = some(r, 1, r.nextInt(5) == 0 ? 30 : 3);
        switch (name) {
            case "told" -> told(some(r, 0, 12));
            case "link" -> { int w = some(r, 0, 9); check("link(" + l + ", " + w + ")", y.link(l, w), x.link(l, w)); }
            case "reads" -> check("reads(" + a + ", " + l + ")", y.reads(a, l), x.reads(a, l));
            case "wind" -> check("wind(" + n + ")", y.wind(n), x.wind(n));
            case "hour" -> check("hour(" + few + ")", y.hour(few), x.hour(few));
            case "undoLink" -> check("undoLink(" + l + ")", y.undoLink(l), x.undoLink(l));
            case "doUp" -> check("doUp(" + l + ")", y.doUp(l), x.doUp(l));
            case "turn" -> check("turn(" + l + ")", y.turn(l), x.turn(l));
            case "mend" -> check("mend(" + l + ")", y.mend(l), x.mend(l));
            case "hold" -> check("hold(" + l + ", " + is + ")", y.hold(l, is), x.hold(l, is));
            case "earn" -> { int e = r.nextInt(4) == 0 ? some(r, 1, 99) : 1; check("earn(" + e + ")", y.earn(e), x.earn(e)); }
            case "drift" -> check("drift(" + few + ")", y.drift(few), x.drift(few));
            case "undo" -> check("undo(" + few + ")", y.undo(few), x.undo(few));
            case "lasts" -> check("lasts(" + l + ")", y.lasts(l), x.lasts(l));
            case "first" -> check("first(" + what + ")", y.first(what), x.first(what));
            case "still" -> check("still(" + n + ")", y.still(n), x.still(n));
            case "parts" -> { int p = r.nextBoolean() ? n : few; check("parts(" + p + ")", y.parts(p), x.parts(p)); }
            case "together" -> check("together(" + a + ")", y.together(a), x.together(a));
            case "between" -> check("between(" + a + ", " + b + ", " + what + ")", y.between(a, b, what), x.between(a, b, what));
            case "way" -> check("way(" + a + ", " + b + ", " + what + ")", y.way(a, b, what), x.way(a, b, what));
            case "widest" -> check("widest(" + a + ", " + b + ")", y.widest(a, b), x.widest(a, b));
            case "farthest" -> check("farthest(" + a + ", " + what + ")", y.farthest(a, what), x.farthest(a, what));
            case "keepUp" -> { int k = r.nextInt(4) == 0 ? n : few; check("keepUp(" + k + ", " + what + ")", y.keepUp(k, what), x.keepUp(k, what)); }
            default -> callOther(name, r, a, b, l, what, is);
        }
    }

    private void callOther(String name, Random r, int a, int b, int l, int what, boolean is) {
        switch (name) {
            case "agree" -> check("agree(" + what + ")", y.agree(what), x.agree(what));
            case "fold" -> { int i = r.nextInt(8) - 2; check("fold(" + i + ")", y.fold(i), x.fold(i)); }
            case "share" -> { int n = r.nextInt(3) == 0 ? some(r, 0, 99) : r.nextInt(8); check("share(" + n + ", " + what + ")", y.share(n, what), x.share(n, what)); }
            case "calm" -> { int n = some(r, 0, 60); int q = some(r, 0, 100); check("calm(" + n + ", " + q + ")", y.calm(n, q), x.calm(n, q)); }
            case "hear" -> check("hear(" + a + ", " + b + ", " + is + ")", y.hear(a, b, is), x.hear(a, b, is));
            case "traitor" -> check("traitor()", y.traitor(), x.traitor());
            case "ask" -> check("ask()", y.ask(), x.ask());
            case "write" -> check("write(" + l + ", " + what + ")", y.write(l, what), x.write(l, what));
            case "judge" -> check("judge()", y.judge(), x.judge());
            case "tear" -> { if (r.nextInt(4) == 0) { check("tear()", y.tear(), x.tear()); } }
            case "seed" -> { int v = r.nextInt(10) == 0 ? -r.nextInt(9) : r.nextInt() >>> 1; check("seed(" + v + ")", y.seed(v), x.seed(v)); }
            case "keep" -> { int i = some(r, 0, 1); check("keep(" + i + ")", y.keep(i), x.keep(i)); }
            case "goBack" -> { int i = some(r, 0, 1); check("goBack(" + i + ")", y.goBack(i), x.goBack(i)); }
            case "fault" -> fault();
            default -> throw new IllegalStateException(name);
        }
    }
}
