/** Flying islands that are buttoned to one another with cufflinks; the document's numbered promises say what each call answers. */
public final class LinkedIsles {
    public static final int NONE = -1, UNKNOWN = -1000000001, OUTSIDE = -1000000002, NOT = -1000000003, FULL = -1000000004;

    private static final int MOST_LETTERS = 240, MOST_ISLANDS = 8, MOST_LINKS = 10, MOST_WINDS = 12, MOST_FIGURES = 3;
    private static final int MOST_STRAIN = 999, SILVER_AT_FIRST = 3, MOST_SILVER = 99;
    private static final int STUD = 3;
    private static final int MOST_HOURS = 90000, HOURS_A_CALL = 30, HOURS_TRIED = 60, HOURS_WATCHED = 200;
    private static final int MOST_DEEDS = 30, IMAGES = 2, MOST_HEARD = 6, MOST_ENTRIES = 20;
    private static final int NO_LINK = MOST_LINKS;
    private static final int BILLION = 1000000000;

    private final Text text = new Text();
    private Chart chart = new Chart();
    private Chart draft = new Chart();
    private final Bonds now = new Bonds();
    private final Bonds trial = new Bonds();
    private final Log log = new Log();
    private final Talk talk = new Talk();
    private final int[] imageRows = new int[IMAGES * Bonds.ROW];
    private final int[] imageSeeds = new int[IMAGES];
    private int imagesKept = 0;
    private int theSeed = 0;

    public LinkedIsles() {
    }

    // ---- the sea

    public int feed(int letter) {
        if (!isWithin(letter, 0, 255)) {
            return OUTSIDE;
        }
        if (text.count >= MOST_LETTERS) {
            return FULL;
        }
        return text.add(letter);
    }

    public int sea() {
        int kind = text.tell(draft);
        if (kind != 0) {
            return -10 - kind;
        }
        Chart old = chart;
        chart = draft;
        draft = old;
        now.begin(chart);
        log.forget();
        talk.forget();
        imagesKept = 0;
        return chart.links;
    }

    public int fault() {
        return text.faultAt;
    }

    public int told(int what) {
        switch (what) {
            case 0: return chart.islands;
            case 1: return chart.links;
            case 2: return chart.windCount;
            case 3: return text.count;
            case 4: return now.hours;
            case 5: return now.silver;
            case 6: return now.broke;
            case 7: return now.doneUp;
            case 8: return linksAlone();
            case 9: return chart.clashing(now.doneUp, now.turned);
            case 10: return talk.heardCount;
            case 11: return talk.entryCount;
            case 12: return log.count;
            default: return OUTSIDE;
        }
    }

    public int link(int l, int what) {
        if (!chart.hasLink(l)) {
            return UNKNOWN;
        }
        switch (what) {
            case 0: return chart.endA[l];
            case 1: return chart.endB[l];
            case 2: return chart.kind[l];
            case 3: return chart.strength[l];
            case 4: return now.strain[l];
            case 5: return has(now.doneUp, l) ? 1 : 0;
            case 6: return has(now.turned, l) ? 1 : 0;
            case 7: return has(now.held, l) ? 1 : 0;
            case 8: return chart.sideA[l];
            case 9: return chart.sideB[l];
            default: return OUTSIDE;
        }
    }

    public int reads(int a, int l) {
        if (!chart.hasIsland(a) || !chart.hasLink(l)) {
            return UNKNOWN;
        }
        if (!has(now.doneUp, l) || !has(chart.ends[l], a)) {
            return NONE;
        }
        return chart.sideRead(l, a == chart.endA[l], has(now.turned, l));
    }

    public int wind(int n) {
        if (!isWithin(n, 0, HOURS_TRIED)) {
            return OUTSIDE;
        }
        if (!chart.isThere()) {
            return NOT;
        }
        return chart.windOf(now.hours + n);
    }

    // ---- deeds

    public int hour(int n) {
        int refusal = refusalOfHours(n);
        if (refusal != 0) {
            return refusal;
        }
        for (int i = 0; i < n; i++) {
            log.note(now);
            now.passHour(chart);
        }
        return now.doneUp;
    }

    public int undoLink(int l) {
        if (!chart.hasLink(l)) {
            return UNKNOWN;
        }
        if (!has(now.doneUp, l)) {
            return NOT;
        }
        log.note(now);
        now.doneUp &= ~(1 << l);
        return Integer.bitCount(now.doneUp);
    }

    public int doUp(int l) {
        if (!chart.hasLink(l)) {
            return UNKNOWN;
        }
        if (!now.canBeDoneUp(chart, l)) {
            return NOT;
        }
        log.note(now);
        now.doneUp |= 1 << l;
        return Integer.bitCount(now.doneUp);
    }

    public int turn(int l) {
        if (!chart.hasLink(l)) {
            return UNKNOWN;
        }
        log.note(now);
        now.turned ^= 1 << l;
        return has(now.turned, l) ? 1 : 0;
    }

    public int mend(int l) {
        if (!chart.hasLink(l)) {
            return UNKNOWN;
        }
        if (now.silver < 1) {
            return NOT;
        }
        log.note(now);
        now.strain[l] = 0;
        now.silver--;
        return now.silver;
    }

    public int hold(int l, boolean is) {
        if (!chart.hasLink(l)) {
            return UNKNOWN;
        }
        if (chart.kind[l] != STUD) {
            return NOT;
        }
        int was = has(now.held, l) ? 1 : 0;
        log.note(now);
        now.held = is ? now.held | 1 << l : now.held & ~(1 << l);
        return was;
    }

    public int earn(int n) {
        if (!isWithin(n, 1, MOST_SILVER)) {
            return OUTSIDE;
        }
        if (!chart.isThere()) {
            return NOT;
        }
        log.note(now);
        now.silver = Math.min(now.silver + n, MOST_SILVER);
        return now.silver;
    }

    public int drift(int n) {
        int refusal = refusalOfHours(n);
        if (refusal != 0) {
            return refusal;
        }
        for (int i = 0; i < n; i++) {
            log.note(now);
            if (chart.links > 0) {
                drawDeed();
            }
            now.passHour(chart);
        }
        return now.doneUp;
    }

    public int undo(int n) {
        if (!isWithin(n, 1, MOST_DEEDS)) {
            return OUTSIDE;
        }
        if (n > log.count) {
            return NOT;
        }
        log.takeBack(n, now);
        return now.hours;
    }

    // ---- tried

    public int lasts(int l) {
        if (!chart.hasLink(l)) {
            return UNKNOWN;
        }
        return hoursUntilBreak(1 << l);
    }

    public int first(int what) {
        if (!isWithin(what, 0, 1)) {
            return OUTSIDE;
        }
        int hours = hoursUntilBreak(now.doneUp);
        if (hours == NONE || what == 1) {
            return hours;
        }
        return leastOf(now.doneUp & ~doneUpBehind(hours));
    }

    public int still(int n) {
        if (!isWithin(n, 0, HOURS_TRIED)) {
            return OUTSIDE;
        }
        return doneUpBehind(n);
    }

    public int parts(int n) {
        if (!isWithin(n, 0, HOURS_TRIED)) {
            return OUTSIDE;
        }
        return chart.partsBy(doneUpBehind(n));
    }

    public int together(int a) {
        if (!chart.hasIsland(a)) {
            return UNKNOWN;
        }
        return chart.reach(a, now.doneUp);
    }

    public int between(int a, int b, int what) {
        if (!areTwoIslands(a, b)) {
            return UNKNOWN;
        }
        if (!isWithin(what, 0, 1)) {
            return OUTSIDE;
        }
        int cut = fewestToPart(a, b);
        return what == 0 ? Integer.bitCount(cut) : cut;
    }

    public int way(int a, int b, int what) {
        if (!areTwoIslands(a, b)) {
            return UNKNOWN;
        }
        if (!isWithin(what, 0, 1)) {
            return OUTSIDE;
        }
        int far = chart.steps(a, b, now.doneUp);
        return far == NONE || what == 0 ? far : firstOfWay(a, b, far);
    }

    public int widest(int a, int b) {
        if (!areTwoIslands(a, b)) {
            return UNKNOWN;
        }
        int best = NONE;
        for (int l = 0; l < chart.links; l++) {
            int spare = now.spare(chart, l);
            if (has(now.doneUp, l) && spare > best && chart.hang(a, b, linksWithSpare(spare))) {
                best = spare;
            }
        }
        return best;
    }

    public int farthest(int a, int what) {
        if (!chart.hasIsland(a)) {
            return UNKNOWN;
        }
        if (!isWithin(what, 0, 1)) {
            return OUTSIDE;
        }
        int who = a;
        int far = 0;
        for (int i = 0; i < chart.islands; i++) {
            int steps = chart.steps(a, i, now.doneUp);
            if (steps > far) {
                who = i;
                far = steps;
            }
        }
        return what == 0 ? who : far;
    }

    public int keepUp(int n, int what) {
        if (!isWithin(n, 0, HOURS_TRIED) || !isWithin(what, 0, 1)) {
            return OUTSIDE;
        }
        int mended = fewestToMend(n);
        return mended == NONE || what == 1 ? mended : Integer.bitCount(mended);
    }

    public int agree(int what) {
        if (!isWithin(what, 0, 1)) {
            return OUTSIDE;
        }
        int set = fewestToTurn();
        return what == 1 ? set : clashesIfTurned(set);
    }

    public int fold(int i) {
        int found = 0;
        for (int a = 0; a < chart.islands; a++) {
            for (int b = a + 1; b < chart.islands; b++) {
                if (liesOn(a, b)) {
                    if (found == i) {
                        return 10 * a + b;
                    }
                    found++;
                }
            }
        }
        return i == NONE ? found : NONE;
    }

    public int share(int n, int what) {
        if (!isWithin(n, 0, MOST_SILVER) || !isWithin(what, 0, 1)) {
            return OUTSIDE;
        }
        int given = 0;
        int left = n;
        for (int round = 0; round < MOST_LINKS && left > 0 && given != now.doneUp; round++) {
            given |= 1 << mostStrained(now.doneUp & ~given);
            left--;
        }
        return what == 0 ? left : given;
    }

    public int calm(int n, int q) {
        if (!isWithin(n, 0, HOURS_TRIED) || !isWithin(q, 0, 100)) {
            return OUTSIDE;
        }
        long odds = BILLION;
        for (int i = 0; i < n; i++) {
            odds = odds * q / 100;
        }
        return (int) odds;
    }

    // ---- what was heard

    public int hear(int a, int b, boolean hang) {
        if (!areTwoIslands(a, b)) {
            return UNKNOWN;
        }
        if (talk.heardCount >= MOST_HEARD) {
            return FULL;
        }
        return talk.addHeard(a, b, hang);
    }

    public int traitor() {
        int fits = 0;
        for (int c = 0; c <= NO_LINK; c++) {
            boolean couldBe = c == NO_LINK || has(now.doneUp, c);
            if (couldBe && talk.fits(chart, doneUpWithout(c))) {
                fits |= 1 << c;
            }
        }
        return fits;
    }

    public int ask() {
        int fits = traitor();
        // A pair whose greater part is all that fits parts nothing.
        int least = Integer.bitCount(fits);
        int best = NONE;
        for (int a = 0; a < chart.islands; a++) {
            for (int b = a + 1; b < chart.islands; b++) {
                int part = greaterPart(a, b, fits);
                if (part < least) {
                    least = part;
                    best = 10 * a + b;
                }
            }
        }
        return best;
    }

    public int write(int l, int is) {
        if (!chart.hasLink(l)) {
            return UNKNOWN;
        }
        if (!isWithin(is, 0, 1)) {
            return OUTSIDE;
        }
        if (talk.entryCount >= MOST_ENTRIES) {
            return FULL;
        }
        return talk.addEntry(l, is);
    }

    public int judge() {
        return talk.firstWrong(now.doneUp);
    }

    public int tear() {
        int had = talk.heardCount + talk.entryCount;
        talk.forget();
        return had;
    }

    // ---- images

    public int seed(int v) {
        if (v < 0) {
            return OUTSIDE;
        }
        int was = theSeed;
        theSeed = v;
        return was;
    }

    public int keep(int i) {
        if (!isWithin(i, 0, IMAGES - 1)) {
            return UNKNOWN;
        }
        now.store(imageRows, i);
        imageSeeds[i] = theSeed;
        imagesKept |= 1 << i;
        log.forget();
        return 1;
    }

    public int goBack(int i) {
        if (!isWithin(i, 0, IMAGES - 1)) {
            return UNKNOWN;
        }
        if (!has(imagesKept, i)) {
            return NOT;
        }
        now.restore(imageRows, i);
        theSeed = imageSeeds[i];
        log.forget();
        return 1;
    }

    // ---- what the calls above share

    private static boolean has(int set, int k) {
        return (set >> k & 1) != 0;
    }

    private static boolean isWithin(int n, int low, int high) {
        return n >= low && n <= high;
    }

    private static int leastOf(int set) {
        return set == 0 ? NONE : Integer.numberOfTrailingZeros(set);
    }

    private boolean areTwoIslands(int a, int b) {
        return chart.hasIsland(a) && chart.hasIsland(b) && a != b;
    }

    /** 0, if n HOURS may pass. */
    private int refusalOfHours(int n) {
        if (!isWithin(n, 1, HOURS_A_CALL)) {
            return OUTSIDE;
        }
        if (!chart.isThere()) {
            return NOT;
        }
        return now.hours > MOST_HOURS ? FULL : 0;
    }

    /** A DRAW of n, which is 1 or more. */
    private int drawOf(int n) {
        theSeed = (int) ((theSeed * 1103515245L + 12345L) & 0x7fffffffL);
        return n < 1 ? 0 : theSeed / 65536 % n;
    }

    private void drawDeed() {
        int deed = drawOf(6);
        if (deed > 2) {
            return;
        }
        int l = drawOf(chart.links);
        if (deed == 0) {
            now.doneUp &= ~(1 << l);
        } else if (deed == 2) {
            now.turned ^= 1 << l;
        } else if (now.canBeDoneUp(chart, l)) {
            now.doneUp |= 1 << l;
        }
    }

    private int doneUpBehind(int n) {
        trial.become(now);
        return tryHours(n);
    }

    /** LINKS (a SET) that are DONE UP in the trial, as it stands, behind n HOURS. */
    private int tryHours(int n) {
        for (int i = 0; i < n; i++) {
            trial.passHour(chart);
        }
        return trial.doneUp;
    }

    /** Behind how many HOURS the first of these LINKS BREAKS; NONE. */
    private int hoursUntilBreak(int set) {
        trial.become(now);
        for (int h = 1; h <= HOURS_WATCHED; h++) {
            if ((trial.passHour(chart) & set) != 0) {
                return h;
            }
        }
        return NONE;
    }

    private int linksAlone() {
        int parts = chart.partsBy(now.doneUp);
        int alone = 0;
        for (int l = 0; l < chart.links; l++) {
            if (has(now.doneUp, l) && chart.partsBy(doneUpWithout(l)) > parts) {
                alone |= 1 << l;
            }
        }
        return alone;
    }

    /** NO_LINK takes none away. */
    private int doneUpWithout(int l) {
        return now.doneUp & ~(1 << l);
    }

    private int fewestToPart(int a, int b) {
        for (int size = 0; size <= MOST_LINKS; size++) {
            for (int set = 0; set <= now.doneUp; set++) {
                if (isChoice(set, size) && !chart.hang(a, b, now.doneUp & ~set)) {
                    return set;
                }
            }
        }
        return now.doneUp;
    }

    /** Whether a SET is one of so many LINKS that are DONE UP. */
    private boolean isChoice(int set, int size) {
        return (set & ~now.doneUp) == 0 && Integer.bitCount(set) == size;
    }

    private int firstOfWay(int a, int b, int far) {
        for (int l = 0; l < chart.links; l++) {
            if (has(now.doneUp, l) && has(chart.ends[l], a)) {
                int next = a == chart.endA[l] ? chart.endB[l] : chart.endA[l];
                if (chart.steps(next, b, now.doneUp) == far - 1) {
                    return l;
                }
            }
        }
        return NONE;
    }

    private int linksWithSpare(int spare) {
        int set = 0;
        for (int l = 0; l < chart.links; l++) {
            if (has(now.doneUp, l) && now.spare(chart, l) >= spare) {
                set |= 1 << l;
            }
        }
        return set;
    }

    private int fewestToMend(int n) {
        int parts = chart.partsBy(now.doneUp);
        int left = doneUpBehind(n);
        int leftMended = doneUpBehindIfMended(n);
        for (int size = 0; size <= MOST_LINKS; size++) {
            for (int set = 0; set <= now.doneUp; set++) {
                if (isChoice(set, size) && chart.partsBy(left & ~set | leftMended & set) <= parts) {
                    return set;
                }
            }
        }
        return NONE;
    }

    /** No LINK's STRAIN hangs on another's, so one trial with all MENDED tells of each. */
    private int doneUpBehindIfMended(int n) {
        trial.become(now);
        for (int l = 0; l < MOST_LINKS; l++) {
            trial.strain[l] = 0;
        }
        return tryHours(n);
    }

    private int clashesIfTurned(int set) {
        return Integer.bitCount(chart.clashing(now.doneUp, now.turned ^ set));
    }

    private int fewestToTurn() {
        int best = 0;
        int least = clashesIfTurned(0);
        // By size: where none CLASHES, no SET that comes later is better.
        for (int size = 1; size <= MOST_LINKS && least > 0; size++) {
            for (int set = 1; set <= now.doneUp && least > 0; set++) {
                int clashes = isChoice(set, size) ? clashesIfTurned(set) : least;
                if (clashes < least) {
                    best = set;
                    least = clashes;
                }
            }
        }
        return best;
    }

    private boolean liesOn(int a, int b) {
        int both = 1 << a | 1 << b;
        int ofA = chart.widen(1 << a, now.doneUp) & ~both;
        int ofB = chart.widen(1 << b, now.doneUp) & ~both;
        return ofA == ofB && ofA != 0;
    }

    /** The LINK of a SET, which is not empty, that has the most STRAIN. */
    private int mostStrained(int set) {
        int most = leastOf(set);
        for (int l = 0; l < chart.links; l++) {
            if (has(set, l) && most != NONE && now.strain[l] > now.strain[most]) {
                most = l;
            }
        }
        return most;
    }

    private int greaterPart(int a, int b, int fits) {
        int hanging = 0;
        for (int c = 0; c <= NO_LINK; c++) {
            if (has(fits, c) && chart.hang(a, b, doneUpWithout(c))) {
                hanging++;
            }
        }
        return Math.max(hanging, Integer.bitCount(fits) - hanging);
    }

    /** THE SEA as it was told: what no HOUR and no deed changes. */
    private static final class Chart {
        final int[] endA = new int[MOST_LINKS];
        final int[] endB = new int[MOST_LINKS];
        /** Both ISLANDS of a LINK, a SET. */
        final int[] ends = new int[MOST_LINKS];
        final int[] kind = new int[MOST_LINKS];
        final int[] strength = new int[MOST_LINKS];
        final int[] sideA = new int[MOST_LINKS];
        final int[] sideB = new int[MOST_LINKS];
        final int[] winds = new int[MOST_WINDS];
        /** What each ISLAND READS, a SET of numbers: room that clashing() uses again. */
        final int[] numbers = new int[MOST_ISLANDS];
        int islands = 0;
        int links = 0;
        int windCount = 0;

        void clear() {
            islands = 0;
            links = 0;
            windCount = 0;
        }

        boolean isThere() {
            return islands > 0;
        }

        boolean hasIsland(int a) {
            return a >= 0 && a < islands;
        }

        boolean hasLink(int l) {
            return l >= 0 && l < links;
        }

        int windOf(int k) {
            return windCount < 1 || k < 0 ? 0 : winds[k % windCount];
        }

        int sideRead(int l, boolean byA, boolean isTurned) {
            return byA != isTurned ? sideA[l] : sideB[l];
        }

        /** These ISLANDS and those that are one LINK of the set away. */
        int widen(int from, int set) {
            int wider = from;
            for (int l = 0; l < links; l++) {
                if (has(set, l) && (from & ends[l]) != 0) {
                    wider |= ends[l];
                }
            }
            return wider;
        }

        int reach(int a, int set) {
            int found = 1 << a;
            for (int round = 0; round < islands; round++) {
                int wider = widen(found, set);
                if (wider == found) {
                    break;
                }
                found = wider;
            }
            return found;
        }

        boolean hang(int a, int b, int set) {
            return has(reach(a, set), b);
        }

        int steps(int a, int b, int set) {
            int found = 1 << a;
            for (int far = 0; far < islands; far++) {
                if (has(found, b)) {
                    return far;
                }
                found = widen(found, set);
            }
            return NONE;
        }

        int partsBy(int set) {
            int count = 0;
            int seen = 0;
            for (int a = 0; a < islands; a++) {
                if (!has(seen, a)) {
                    seen |= reach(a, set);
                    count++;
                }
            }
            return count;
        }

        /** ISLANDS (a SET) that CLASH with these LINKS DONE UP and those TURNED. */
        int clashing(int doneUp, int turned) {
            for (int a = 0; a < islands; a++) {
                numbers[a] = 0;
            }
            for (int l = 0; l < links; l++) {
                if (has(doneUp, l)) {
                    numbers[endA[l]] |= 1 << sideRead(l, true, has(turned, l));
                    numbers[endB[l]] |= 1 << sideRead(l, false, has(turned, l));
                }
            }
            int set = 0;
            for (int a = 0; a < islands; a++) {
                if (Integer.bitCount(numbers[a]) > 1) {
                    set |= 1 << a;
                }
            }
            return set;
        }
    }

    /** THE TEXT, and how it is read; the first FAULT that is found stays. */
    private static final class Text {
        final int[] letters = new int[MOST_LETTERS];
        int count = 0;
        int at = 0;
        int fault = 0;
        int faultAt = NONE;

        int add(int letter) {
            if (count < MOST_LETTERS) {
                letters[count] = letter;
                count++;
            }
            return count;
        }

        /** Reads all into a chart and is empty then: the number of its FAULT, 0 if there is none. */
        int tell(Chart chart) {
            chart.clear();
            at = 0;
            fault = 0;
            faultAt = NONE;
            // Each clause that is read takes a letter at least.
            for (int clause = 0; clause < MOST_LETTERS && fault == 0; clause++) {
                skipBlanks();
                if (at >= count) {
                    break;
                }
                readClause(chart);
            }
            count = 0;
            return fault;
        }

        private void readClause(Chart chart) {
            int start = at;
            int word = letters[at];
            at++;
            if (!chart.isThere()) {
                if (word == 's') {
                    readIslands(chart);
                } else {
                    fail(1, start);
                }
            } else if (word == 'l' && chart.links < MOST_LINKS) {
                readLink(chart);
            } else if (word == 'w' && chart.windCount == 0) {
                readWinds(chart);
            } else {
                fail(word == 's' || word == 'l' || word == 'w' ? 3 : 1, start);
            }
        }

        private void readIslands(Chart chart) {
            int n = number(2, MOST_ISLANDS);
            expect(';');
            if (fault == 0) {
                chart.islands = n;
            }
        }

        private void readLink(Chart chart) {
            int a = number(0, chart.islands - 1);
            skipBlanks();
            int placeOfB = at;
            int b = number(0, chart.islands - 1);
            if (a == b) {
                fail(4, placeOfB);
            }
            int kind = number(0, 3);
            int strength = number(1, 99);
            int sideA = number(0, 9);
            int sideB = number(0, 9);
            expect(';');
            if (fault == 0) {
                int l = chart.links;
                chart.endA[l] = a;
                chart.endB[l] = b;
                chart.ends[l] = 1 << a | 1 << b;
                chart.kind[l] = kind;
                chart.strength[l] = strength;
                chart.sideA[l] = sideA;
                chart.sideB[l] = sideB;
                chart.links++;
            }
        }

        private void readWinds(Chart chart) {
            boolean goesOn = true;
            for (int n = 0; n < MOST_WINDS && goesOn; n++) {
                chart.winds[n] = number(0, 9);
                chart.windCount = n + 1;
                // The ',' behind the last number that may stand is left for expect() to find fault with.
                goesOn = n + 1 < MOST_WINDS && take(',');
            }
            expect(';');
        }

        private void skipBlanks() {
            while (at < count && letters[at] == ' ') {
                at++;
            }
        }

        private boolean take(int sign) {
            skipBlanks();
            if (at < count && letters[at] == sign) {
                at++;
                return true;
            }
            return false;
        }

        private void expect(int sign) {
            if (!take(sign)) {
                fail(1, at);
            }
        }

        private int number(int low, int high) {
            skipBlanks();
            int start = at;
            int value = 0;
            while (at < count && letters[at] >= '0' && letters[at] <= '9') {
                if (at - start < MOST_FIGURES) {
                    value = value * 10 + letters[at] - '0';
                }
                at++;
            }
            if (at == start) {
                fail(1, start);
            } else if (at - start > MOST_FIGURES || !isWithin(value, low, high)) {
                fail(2, start);
            }
            return value;
        }

        private void fail(int kind, int place) {
            if (fault == 0) {
                fault = kind;
                faultAt = place;
            }
        }
    }

    /** All of section 2: what HOURS and deeds change. */
    private static final class Bonds {
        static final int ROW = MOST_LINKS + 6;

        final int[] strain = new int[MOST_LINKS];
        int doneUp = 0;
        int turned = 0;
        int held = 0;
        int hours = 0;
        int silver = 0;
        int broke = 0;

        void begin(Chart chart) {
            for (int l = 0; l < MOST_LINKS; l++) {
                strain[l] = 0;
            }
            doneUp = (1 << chart.links) - 1;
            turned = 0;
            held = 0;
            hours = 0;
            silver = chart.isThere() ? SILVER_AT_FIRST : 0;
            broke = 0;
        }

        void become(Bonds other) {
            System.arraycopy(other.strain, 0, strain, 0, MOST_LINKS);
            doneUp = other.doneUp;
            turned = other.turned;
            held = other.held;
            hours = other.hours;
            silver = other.silver;
            broke = other.broke;
        }

        /** Row i of rows that lie one behind the other becomes this. */
        void store(int[] rows, int i) {
            int p = i * ROW;
            if (p < 0 || p + ROW > rows.length) {
                return;
            }
            System.arraycopy(strain, 0, rows, p, MOST_LINKS);
            rows[p + MOST_LINKS] = doneUp;
            rows[p + MOST_LINKS + 1] = turned;
            rows[p + MOST_LINKS + 2] = held;
            rows[p + MOST_LINKS + 3] = hours;
            rows[p + MOST_LINKS + 4] = silver;
            rows[p + MOST_LINKS + 5] = broke;
        }

        void restore(int[] rows, int i) {
            int p = i * ROW;
            if (p < 0 || p + ROW > rows.length) {
                return;
            }
            System.arraycopy(rows, p, strain, 0, MOST_LINKS);
            doneUp = rows[p + MOST_LINKS];
            turned = rows[p + MOST_LINKS + 1];
            held = rows[p + MOST_LINKS + 2];
            hours = rows[p + MOST_LINKS + 3];
            silver = rows[p + MOST_LINKS + 4];
            broke = rows[p + MOST_LINKS + 5];
        }

        int spare(Chart chart, int l) {
            return chart.strength[l] - strain[l];
        }

        boolean canBeDoneUp(Chart chart, int l) {
            return !has(doneUp, l) && spare(chart, l) > 0;
        }

        /** LINKS (a SET) that BREAK in it. */
        int passHour(Chart chart) {
            int wind = chart.windOf(hours);
            int broken = 0;
            for (int l = 0; l < chart.links; l++) {
                if (has(doneUp, l)) {
                    strain[l] = Math.min(strain[l] + pull(chart.kind[l], wind, has(held, l)), MOST_STRAIN);
                    if (spare(chart, l) <= 0) {
                        broken |= 1 << l;
                    }
                }
            }
            doneUp &= ~broken;
            broke += Integer.bitCount(broken);
            hours++;
            return broken;
        }

        private static int pull(int kind, int wind, boolean isHeld) {
            switch (kind) {
                case 1: return wind < 6 ? 0 : 2 * wind;
                case 2: return wind / 2;
                case STUD: return isHeld ? Math.max(wind - 3, 0) : wind;
                default: return wind;
            }
        }
    }

    /** How all was ahead of each of the latest deeds: a ring of rows. */
    private static final class Log {
        final int[] rows = new int[MOST_DEEDS * Bonds.ROW];
        int next = 0;
        int count = 0;

        void forget() {
            next = 0;
            count = 0;
        }

        void note(Bonds bonds) {
            bonds.store(rows, next);
            next = (next + 1) % MOST_DEEDS;
            count = Math.min(count + 1, MOST_DEEDS);
        }

        /** n is 1 .. count. */
        void takeBack(int n, Bonds bonds) {
            next = (next + MOST_DEEDS - n) % MOST_DEEDS;
            count -= n;
            bonds.restore(rows, next);
        }
    }

    /** What was HEARD, and THE BOOK. */
    private static final class Talk {
        final int[] heardA = new int[MOST_HEARD];
        final int[] heardB = new int[MOST_HEARD];
        final int[] entryLink = new int[MOST_ENTRIES];
        int heardCount = 0;
        int entryCount = 0;
        /** What was HEARD (a SET) of two that HANG TOGETHER. */
        int hanging = 0;
        /** Entries (a SET) that tell of a LINK that it is DONE UP. */
        int toldUp = 0;

        void forget() {
            heardCount = 0;
            entryCount = 0;
            hanging = 0;
            toldUp = 0;
        }

        int addHeard(int a, int b, boolean hang) {
            if (heardCount < MOST_HEARD) {
                heardA[heardCount] = a;
                heardB[heardCount] = b;
                hanging |= hang ? 1 << heardCount : 0;
                heardCount++;
            }
            return heardCount;
        }

        int addEntry(int l, int is) {
            if (entryCount < MOST_ENTRIES) {
                entryLink[entryCount] = l;
                toldUp |= is << entryCount;
                entryCount++;
            }
            return entryCount;
        }

        /** Whether all that is HEARD is so with just these LINKS DONE UP. */
        boolean fits(Chart chart, int set) {
            for (int i = 0; i < heardCount; i++) {
                if (chart.hang(heardA[i], heardB[i], set) != has(hanging, i)) {
                    return false;
                }
            }
            return true;
        }

        int firstWrong(int doneUp) {
            for (int i = 0; i < entryCount; i++) {
                if (has(doneUp, entryLink[i]) != has(toldUp, i)) {
                    return i;
                }
            }
            return NONE;
        }
    }
}
