/**
 * A train that one engine pulls and another one pushes over a hill: what each gives, where the
 * couplings strain, who starts when, in what order the wagons go best, and how many pushers a day
 * needs. The document's words (WAGON, STRAIN, SHEET and so on) are used here as it means them.
 */
public final class PushedOver {
    public static final int NONE = -1, BAD = -2, NOT = -3, FULL = -4;

    private static final int NULL = 1, INDEX = 2, CAST = 3, STORE = 4, SIZE = 5;
    private static final int LEAST_INT = -2147483648;
    private static final long LEAST_LONG = -9223372036854775808L;

    private static final int MOST_WAGONS = 12, MOST_HILL_BYTES = 32, MOST_PLACES = 16;
    private static final int MINUTES = 40, TENTHS = 10, MOST_SPEED = 20, MOST_GIVEN = 999;
    private static final int SWING_FROM = 20, MOST_SWING = 12;
    private static final int SECONDS = 10, JERK = 10;
    private static final int MOST_ORDERED = 6, MOST_ROWS = 720;
    private static final int MOST_TRAINS = 12, LAST_FOOT_MINUTE = 999, MOST_PUSHERS = 6;
    private static final int MOST_WHISTLES = 9, SIXTEENTHS = 16;
    private static final int SHEETS = 4, FORMS = 3, MOST_ITEMS = 60;

    private static final int GIVES = 0, RULE = 1, LAG = 2;
    private static final int[] ENGINE_LEAST = {0, 0, 1};
    private static final int[] ENGINE_MOST = {999, 3, 5};
    private static final int[] ENGINE_FIRST = {100, 0, 1};

    private static final int TEAR = 0, HOLD = 1, UP = 2, DOWN = 3, SPEED = 4;
    private static final int[] SETTING_LEAST = {1, 1, 1, 1, 0};
    private static final int[] SETTING_MOST = {999, 99, 99, 99, 20};
    private static final int[] SETTING_FIRST = {300, 20, 10, 5, 5};

    private static final int[] DIGEST_MINUTES = {0, 1, 7, 39};

    private final Text trainText, hillText;
    private final Consist consist;
    private final Slopes slopes;
    private final Dials front, behind, settings;
    private final Ride ride;
    private final BestRow bestRow;
    private final Day day;
    private final Sheet[] sheets;
    private boolean bestRowStands;
    private int latestFinding;

    public PushedOver() {
        trainText = new Text(MOST_WAGONS);
        hillText = new Text(MOST_HILL_BYTES);
        consist = new Consist();
        slopes = new Slopes();
        front = new Dials(ENGINE_LEAST, ENGINE_MOST, ENGINE_FIRST);
        behind = new Dials(ENGINE_LEAST, ENGINE_MOST, ENGINE_FIRST);
        settings = new Dials(SETTING_LEAST, SETTING_MOST, SETTING_FIRST);
        ride = new Ride();
        bestRow = new BestRow();
        day = new Day();
        sheets = new Sheet[SHEETS];
        for (int s = 0; s < sheets.length; s++) {
            sheets[s] = new Sheet();
        }
        latestFinding = 0;
        refresh();
    }

    // ---- train, hill, engines

    public int type(int text, int b) {
        Text typed = textAt(text);
        if (typed == null || b < 0 || b > 255) {
            return BAD;
        }
        if (typed.isFull()) {
            return FULL;
        }
        typed.append(b);
        refresh();
        return typed.size();
    }

    public int wipe(int text) {
        Text wiped = textAt(text);
        if (wiped == null) {
            return BAD;
        }
        int had = wiped.size();
        wiped.shorten(had);
        refresh();
        return had;
    }

    public int undo(int text) {
        Text undone = textAt(text);
        if (undone == null) {
            return BAD;
        }
        if (undone.size() == 0) {
            return NOT;
        }
        undone.shorten(1);
        refresh();
        return undone.size();
    }

    public int fault(int text) {
        if (textAt(text) == null) {
            return BAD;
        }
        return text == 0 ? consist.firstFault() : slopes.firstFault();
    }

    public int wagon(int wagon) {
        return wagon >= 0 && wagon < consist.size() ? consist.weightOf(wagon) : BAD;
    }

    public int hill(int place, int what) {
        if (place < 0 || place >= slopes.size() || !isZeroOrOne(what)) {
            return BAD;
        }
        if (what == 0) {
            return slopes.steepAt(place);
        }
        return slopes.bendsAt(place) ? 1 : 0;
    }

    public int engine(int engine, int what, int v) {
        if (!isEngine(engine) || !engineAt(engine).takes(what, v)) {
            return BAD;
        }
        int was = engineAt(engine).turn(what, v);
        refresh();
        return was;
    }

    public int set(int what, int v) {
        if (!settings.takes(what, v)) {
            return BAD;
        }
        int was = settings.turn(what, v);
        refresh();
        return was;
    }

    // ---- minutes

    public int gives(int minute, int engine) {
        return isMinute(minute) && isEngine(engine) ? ride.given(engine, minute) : BAD;
    }

    public int minute(int minute, int what) {
        if (!isMinute(minute) || what < 0 || what > 2) {
            return BAD;
        }
        if (what == 0) {
            return ride.neededIn(minute);
        }
        if (what == 1) {
            return ride.speedIn(minute);
        }
        int place = ride.placeIn(minute);
        return place < slopes.size() ? place : NONE;
    }

    public long strain(int minute, int coupling, int what) {
        if (!isMinute(minute) || coupling < 0 || coupling > consist.size() || !isZeroOrOne(what)) {
            return refusedAsLong(BAD);
        }
        if (consist.size() == 0) {
            return refusedAsLong(NOT);
        }
        int above = consist.strainTimesWhole(coupling, ride.given(0, minute), ride.given(1, minute));
        return inLowestTerms(above, consist.whole(), what);
    }

    public int slack(int minute) {
        if (!isMinute(minute)) {
            return BAD;
        }
        if (consist.size() == 0) {
            return NOT;
        }
        return consist.firstSlack(ride.given(0, minute), ride.given(1, minute));
    }

    public int torn() {
        int tear = settings.at(TEAR);
        for (int m = 0; m < MINUTES; m++) {
            if (consist.tears(ride.given(0, m), ride.given(1, m), tear)) {
                return m;
            }
        }
        return NONE;
    }

    public int off(int what) {
        if (!isZeroOrOne(what)) {
            return BAD;
        }
        for (int m = 0; m < MINUTES; m++) {
            int wagon = squeezedOffIn(m);
            if (wagon != NONE) {
                return what == 0 ? m : wagon;
            }
        }
        return NONE;
    }

    public int over() {
        if (slopes.size() == 0) {
            return NONE;
        }
        for (int m = 0; m < MINUTES; m++) {
            if (ride.placeIn(m) >= slopes.size()) {
                return m;
            }
        }
        return NONE;
    }

    public int settles() {
        int first = NONE;
        for (int m = MINUTES - 2; m >= 0 && ride.givesAlike(m, MINUTES - 1); m--) {
            first = m;
        }
        return first;
    }

    public int swings() {
        for (int apart = 1; apart <= MOST_SWING; apart++) {
            if (ride.comesAgain(apart)) {
                return apart;
            }
        }
        return NONE;
    }

    public int does(int what) {
        if (!isZeroOrOne(what)) {
            return BAD;
        }
        int pulled = ride.allGiven(0);
        int both = pulled + ride.allGiven(1);
        return (int) inLowestTerms(pulled, both, what);
    }

    // ---- start, order

    public int start(int a, int b) {
        return isSecond(a) && isSecond(b) ? startOf(a, b) : BAD;
    }

    public int safe(int what) {
        if (!isZeroOrOne(what)) {
            return BAD;
        }
        int well = 0;
        int least = NONE;
        for (int pair = 0; pair < SECONDS * SECONDS; pair++) {
            if (startOf(pair / SECONDS, pair % SECONDS) == 0) {
                well++;
                least = least == NONE ? pair : least;
            }
        }
        return what == 0 ? well : least;
    }

    public int order(int i) {
        if (i < 0 || i >= MOST_ORDERED) {
            return BAD;
        }
        findBestRow();
        return bestRow.wagonAt(i);
    }

    public int squeeze(int what) {
        if (!isZeroOrOne(what)) {
            return BAD;
        }
        findBestRow();
        return (int) inLowestTerms(bestRow.squeezeAbove(), bestRow.squeezeBelow(), what);
    }

    // ---- pushers, whistles

    public int train(int minute) {
        if (!isFootMinute(minute)) {
            return BAD;
        }
        if (day.isFull()) {
            return FULL;
        }
        day.tell(minute);
        return day.size();
    }

    public int back() {
        if (day.size() == 0) {
            return NOT;
        }
        day.forgetLast();
        return day.size();
    }

    public int read(int s) {
        Sheet sheet = sheetAt(s);
        if (sheet == null) {
            return BAD;
        }
        if (sheet.isLost()) {
            return found(NULL);
        }
        int taken = 0;
        while (taken < sheet.size() && !day.isFull() && isFootMinute(sheet.itemAt(taken))) {
            day.tell(sheet.itemAt(taken));
            taken++;
        }
        return taken;
    }

    public int late(int n, int what) {
        if (n < 1 || n > MOST_PUSHERS || !isZeroOrOne(what)) {
            return BAD;
        }
        day.pushAll(n, busyMinutes());
        return what == 0 ? day.waitedTogether() : day.waitedMost();
    }

    public int enough(int told) {
        if (told < 0 || told > LAST_FOOT_MINUTE) {
            return BAD;
        }
        for (int n = 1; n <= MOST_PUSHERS; n++) {
            day.pushAll(n, busyMinutes());
            if (day.waitedMost() <= told) {
                return n;
            }
        }
        return NONE;
    }

    public long whistles(int k, int c, int j, int what) {
        boolean chanceIsTold = k >= 0 && k <= MOST_WHISTLES && c >= 0 && c <= SIXTEENTHS;
        if (!chanceIsTold || j < 0 || j > k || !isZeroOrOne(what)) {
            return refusedAsLong(BAD);
        }
        long heard = power(c, j);
        long missed = power(SIXTEENTHS - c, k - j);
        return inLowestTerms(choices(k, j) * heard * missed, power(SIXTEENTHS, k), what);
    }

    public int words(int m) {
        if (m < 0 || m > MOST_WHISTLES) {
            return BAD;
        }
        // Two numbers stay apart if the greater one, with m lost, is still more than the less one.
        return 1 + (MOST_WHISTLES - 1) / (m + 1);
    }

    // ---- sheets

    public int sheet(int s, int form, int n) {
        Sheet sheet = sheetAt(s);
        if (sheet == null || !isForm(form) || n > MOST_ITEMS) {
            return BAD;
        }
        if (n < 0) {
            return found(SIZE);
        }
        sheet.renew(form, n);
        return n;
    }

    public int lose(int s) {
        Sheet sheet = sheetAt(s);
        if (sheet == null) {
            return BAD;
        }
        if (sheet.isLost()) {
            return found(NULL);
        }
        int had = sheet.size();
        sheet.drop();
        return had;
    }

    public int lay(int s, int form, int i, int v) {
        Sheet sheet = sheetAt(s);
        if (sheet == null || !isForm(form)) {
            return BAD;
        }
        int finding = findingOfItem(sheet, form, i);
        if (finding != 0) {
            return found(finding);
        }
        sheet.put(i, v);
        return 1;
    }

    public int get(int s, int form, int i) {
        Sheet sheet = sheetAt(s);
        if (sheet == null || !isForm(form)) {
            return LEAST_INT;
        }
        int finding = findingOfItem(sheet, form, i);
        if (finding != 0) {
            found(finding);
            return LEAST_INT;
        }
        return sheet.itemAt(i);
    }

    public int copy(int s, int i, int t, int j, int n) {
        Sheet from = sheetAt(s);
        Sheet to = sheetAt(t);
        if (from == null || to == null) {
            return BAD;
        }
        if (from.isLost() || to.isLost()) {
            return found(NULL);
        }
        if (!from.isOfForm(to.formNumber())) {
            return found(STORE);
        }
        if (!from.hasItems(i, n) || !to.hasItems(j, n)) {
            return found(INDEX);
        }
        to.takeOver(from, i, j, n);
        return 1;
    }

    public int write(int engine, int s) {
        Sheet sheet = sheetAt(s);
        if (sheet == null || !isEngine(engine)) {
            return BAD;
        }
        if (sheet.isLost()) {
            return found(NULL);
        }
        int written = Math.min(sheet.size(), MINUTES);
        for (int m = 0; m < written; m++) {
            sheet.put(m, ride.given(engine, m));
        }
        return written;
    }

    public int count(int what) {
        switch (what) {
            case 0: return consist.size();
            case 1: return slopes.size();
            case 2: return trainText.size();
            case 3: return hillText.size();
            case 4: return day.size();
            case 5: return consist.whole();
            case 6: return slopes.bends();
            case 7: return settings.at(SPEED);
            case 8: return latestFinding;
            default: return BAD;
        }
    }

    public long digest() {
        long h = 17;
        for (int what = 0; what <= 7; what++) {
            h = mixed(h, count(what));
        }
        h = mixed(mixed(h, fault(0)), fault(1));
        h = mixedMinutes(mixedHill(mixedWagons(h)));
        return mixedDay(mixedStarts(mixedOutcomes(h)));
    }

    private long mixedWagons(long before) {
        long h = before;
        for (int k = 0; k < consist.size(); k++) {
            h = mixed(h, wagon(k));
            h = mixed(mixed(h, strain(3, k, 0)), strain(3, k, 1));
        }
        return h;
    }

    private long mixedHill(long before) {
        long h = before;
        for (int place = 0; place < slopes.size(); place++) {
            h = mixed(mixed(h, hill(place, 0)), hill(place, 1));
        }
        return h;
    }

    private long mixedMinutes(long before) {
        long h = before;
        for (int m : DIGEST_MINUTES) {
            h = mixed(mixed(h, gives(m, 0)), gives(m, 1));
            h = mixed(mixed(mixed(h, minute(m, 0)), minute(m, 1)), minute(m, 2));
            h = mixed(h, slack(m));
        }
        return h;
    }

    private long mixedOutcomes(long before) {
        long h = mixed(before, torn());
        h = mixed(mixed(h, off(0)), off(1));
        h = mixed(mixed(mixed(h, over()), settles()), swings());
        return mixed(mixed(h, does(0)), does(1));
    }

    private long mixedStarts(long before) {
        long h = mixed(mixed(before, start(0, 3)), start(4, 1));
        h = mixed(mixed(h, safe(0)), safe(1));
        h = mixed(mixed(h, order(0)), order(1));
        return mixed(mixed(h, squeeze(0)), squeeze(1));
    }

    private long mixedDay(long before) {
        long h = before;
        for (int n = 1; n <= MOST_PUSHERS; n++) {
            h = mixed(mixed(h, late(n, 0)), late(n, 1));
        }
        h = mixed(h, enough(9));
        h = mixed(mixed(h, whistles(5, 7, 3, 0)), whistles(5, 7, 3, 1));
        return mixed(h, words(1));
    }

    private static long mixed(long h, long more) {
        return 31 * h + more;
    }

    // ---- what the acts share

    /** What the texts and engines now mean is worked out at each change, so no answer can be stale. */
    private void refresh() {
        consist.load(trainText);
        slopes.load(hillText);
        ride.run(consist.whole(), slopes, front, behind, settings.at(SPEED));
        bestRowStands = false;
    }

    /** All rows are tried only when the best one is asked for: it is by far the dearest work here. */
    private void findBestRow() {
        if (!bestRowStands) {
            bestRow.find(consist, front.at(GIVES), behind.at(GIVES));
            bestRowStands = true;
        }
    }

    private int squeezedOffIn(int m) {
        if (!slopes.bendsAt(ride.placeIn(m))) {
            return NONE;
        }
        return consist.firstSqueezed(ride.given(0, m), ride.given(1, m), settings.at(HOLD));
    }

    private int startOf(int a, int b) {
        int pull = a <= b ? front.at(GIVES) + JERK * (b - a) : 0;
        int push = b <= a ? behind.at(GIVES) + JERK * (a - b) : 0;
        if (consist.tears(pull, push, settings.at(TEAR))) {
            return 1;
        }
        return consist.firstSqueezed(pull, push, settings.at(HOLD)) == NONE ? 0 : 2;
    }

    private int busyMinutes() {
        return settings.at(UP) + settings.at(DOWN);
    }

    private int found(int finding) {
        latestFinding = finding;
        return -10 - finding;
    }

    /** The finding that keeps item i from being used as one of a form; 0 if there is none. */
    private static int findingOfItem(Sheet sheet, int form, int i) {
        if (sheet.isLost()) {
            return NULL;
        }
        if (!sheet.isOfForm(form)) {
            return CAST;
        }
        return sheet.hasItems(i, 1) ? 0 : INDEX;
    }

    private Text textAt(int text) {
        if (text == 0) {
            return trainText;
        }
        return text == 1 ? hillText : null;
    }

    private Dials engineAt(int engine) {
        return engine == 0 ? front : behind;
    }

    private Sheet sheetAt(int s) {
        return s >= 0 && s < sheets.length ? sheets[s] : null;
    }

    private static boolean isEngine(int engine) {
        return engine == 0 || engine == 1;
    }

    private static boolean isMinute(int minute) {
        return minute >= 0 && minute < MINUTES;
    }

    private static boolean isSecond(int second) {
        return second >= 0 && second < SECONDS;
    }

    private static boolean isFootMinute(int minute) {
        return minute >= 0 && minute <= LAST_FOOT_MINUTE;
    }

    private static boolean isForm(int form) {
        return form >= 0 && form < FORMS;
    }

    private static boolean isZeroOrOne(int what) {
        return what == 0 || what == 1;
    }

    private static long refusedAsLong(int refusal) {
        return LEAST_LONG - refusal;
    }

    /** Above (what is 0) or below of a fraction in lowest terms; of nothing by nothing, 0 by 1. */
    private static long inLowestTerms(long above, long below, int what) {
        long common = commonDivisor(Math.abs(above), below);
        if (common == 0) {
            return what == 0 ? 0 : 1;
        }
        return (what == 0 ? above : below) / common;
    }

    private static long commonDivisor(long a, long b) {
        long greater = a;
        long less = b;
        for (int steps = 0; steps < 200 && less != 0; steps++) {
            long rest = greater % less;
            greater = less;
            less = rest;
        }
        return greater;
    }

    private static long power(int base, int times) {
        long product = 1;
        for (int i = 0; i < times; i++) {
            product *= base;
        }
        return product;
    }

    private static long choices(int k, int j) {
        long ways = 1;
        for (int i = 0; i < j; i++) {
            ways = ways * (k - i) / (i + 1);
        }
        return ways;
    }

    /** A text as it was typed, whatever it may mean. */
    private static final class Text {
        private final int[] bytes = new int[MOST_HILL_BYTES];
        private final int limit;
        private int size = 0;

        Text(int limit) {
            this.limit = limit;
        }

        int size() {
            return size;
        }

        boolean isFull() {
            return size >= limit || size >= bytes.length;
        }

        int byteAt(int i) {
            return i >= 0 && i < size && i < bytes.length ? bytes[i] : 0;
        }

        void append(int b) {
            if (!isFull() && size >= 0) {
                bytes[size] = b;
                size++;
            }
        }

        void shorten(int by) {
            size = Math.max(0, size - by);
        }
    }

    /** Numbers that can be set, each within its own bounds. */
    private static final class Dials {
        private final int[] least, most, values;

        Dials(int[] least, int[] most, int[] first) {
            this.least = least;
            this.most = most;
            this.values = first.clone();
        }

        boolean takes(int what, int v) {
            boolean isThere = what >= 0 && what < least.length && what < most.length && what < values.length;
            return isThere && v >= least[what] && v <= most[what];
        }

        int at(int what) {
            return what >= 0 && what < values.length ? values[what] : 0;
        }

        int turn(int what, int v) {
            int was = at(what);
            if (takes(what, v)) {
                values[what] = v;
            }
            return was;
        }
    }

    /** The wagons that the text of the train tells, and the strains between them. */
    private static final class Consist {
        private final int[] weights = new int[MOST_WAGONS];
        private final int[] aheadOf = new int[MOST_WAGONS + 1];
        private int size = 0, whole = 0, fault = NONE;

        void load(Text text) {
            fault = faultOf(text);
            size = fault == NONE ? Math.min(text.size(), MOST_WAGONS) : 0;
            whole = 0;
            aheadOf[0] = 0;
            for (int k = 0; k < size && k < MOST_WAGONS; k++) {
                weights[k] = text.byteAt(k) - '0';
                whole += weights[k];
                aheadOf[k + 1] = whole;
            }
        }

        private static int faultOf(Text text) {
            for (int i = 0; i < text.size(); i++) {
                if (text.byteAt(i) < '1' || text.byteAt(i) > '9') {
                    return i;
                }
            }
            return NONE;
        }

        int firstFault() {
            return fault;
        }

        int size() {
            return size;
        }

        int whole() {
            return whole;
        }

        int weightOf(int k) {
            return k >= 0 && k < size && k < weights.length ? weights[k] : 0;
        }

        /** Strains are compared times the whole weight, so that they stay whole numbers. */
        int strainTimesWhole(int coupling, int pull, int push) {
            int ahead = coupling >= 0 && coupling < aheadOf.length ? aheadOf[coupling] : 0;
            return pull * whole - (pull + push) * ahead;
        }

        int firstSlack(int pull, int push) {
            for (int coupling = 0; coupling <= size; coupling++) {
                if (strainTimesWhole(coupling, pull, push) <= 0) {
                    return coupling;
                }
            }
            return NONE;
        }

        boolean tears(int pull, int push, int tear) {
            for (int coupling = 0; coupling <= size; coupling++) {
                if (strainTimesWhole(coupling, pull, push) > tear * whole) {
                    return true;
                }
            }
            return false;
        }

        int firstSqueezed(int pull, int push, int hold) {
            for (int k = 0; k < size; k++) {
                int bears = hold * weightOf(k) * whole;
                boolean ahead = -strainTimesWhole(k, pull, push) > bears;
                boolean behind = -strainTimesWhole(k + 1, pull, push) > bears;
                if (ahead && behind) {
                    return k;
                }
            }
            return NONE;
        }
    }

    /** The places that the text of the hill tells. */
    private static final class Slopes {
        private final int[] steep = new int[MOST_PLACES];
        private final boolean[] bend = new boolean[MOST_PLACES];
        private int size = 0, bends = 0, fault = NONE;

        void load(Text text) {
            size = 0;
            bends = 0;
            fault = NONE;
            for (int i = 0; i < text.size() && fault == NONE; i++) {
                if (!takes(text.byteAt(i))) {
                    fault = i;
                }
            }
            if (fault != NONE) {
                size = 0;
                bends = 0;
            }
        }

        private boolean takes(int b) {
            if (b == 'b') {
                return bendsLast();
            }
            if (b < '0' || b > '9' || size < 0 || size >= MOST_PLACES) {
                return false;
            }
            steep[size] = b - '0';
            bend[size] = false;
            size++;
            return true;
        }

        private boolean bendsLast() {
            int last = size - 1;
            if (last < 0 || last >= MOST_PLACES || bend[last]) {
                return false;
            }
            bend[last] = true;
            bends++;
            return true;
        }

        int firstFault() {
            return fault;
        }

        int size() {
            return size;
        }

        int bends() {
            return bends;
        }

        int steepAt(int place) {
            int there = Math.min(place, size - 1);
            return there >= 0 && there < steep.length ? steep[there] : 0;
        }

        boolean bendsAt(int place) {
            return place >= 0 && place < size && place < bend.length && bend[place];
        }
    }

    /** The forty minutes: what both give, what is needed, how quick and where the train is. */
    private static final class Ride {
        private final int[] pull = new int[MINUTES];
        private final int[] push = new int[MINUTES];
        private final int[] needed = new int[MINUTES];
        private final int[] speed = new int[MINUTES];
        private final int[] tenths = new int[MINUTES];

        void run(int whole, Slopes slopes, Dials front, Dials behind, int firstSpeed) {
            int quick = firstSpeed;
            int gone = 0;
            for (int m = 0; m < MINUTES; m++) {
                speed[m] = quick;
                tenths[m] = gone;
                needed[m] = slopes.steepAt(gone / TENTHS) * whole;
                pull[m] = byRule(front, m, pull, push);
                push[m] = byRule(behind, m, push, pull);
                gone += quick;
                quick = nextSpeed(quick, pull[m] + push[m] - needed[m]);
            }
        }

        private static int nextSpeed(int quick, int more) {
            if (more > 0) {
                return Math.min(quick + 1, MOST_SPEED);
            }
            return more < 0 ? Math.max(quick - 1, 0) : quick;
        }

        private int byRule(Dials engine, int m, int[] own, int[] other) {
            int felt = m - engine.at(LAG);
            if (felt < 0 || felt >= other.length || m < 1 || m >= own.length) {
                return engine.at(GIVES);
            }
            int leant = Math.max(0, Math.min(needed[m] - other[felt], MOST_GIVEN));
            switch (engine.at(RULE)) {
                case 1: return leant;
                case 2: return other[felt];
                case 3: return (own[m - 1] + leant) / 2;
                default: return engine.at(GIVES);
            }
        }

        int given(int engine, int m) {
            if (m < 0 || m >= MINUTES) {
                return 0;
            }
            return engine == 0 ? pull[m] : push[m];
        }

        int neededIn(int m) {
            return m >= 0 && m < MINUTES ? needed[m] : 0;
        }

        int speedIn(int m) {
            return m >= 0 && m < MINUTES ? speed[m] : 0;
        }

        /** The place, counted on beyond the last one. */
        int placeIn(int m) {
            return m >= 0 && m < MINUTES ? tenths[m] / TENTHS : 0;
        }

        int allGiven(int engine) {
            int all = 0;
            for (int m = 0; m < MINUTES; m++) {
                all += given(engine, m);
            }
            return all;
        }

        boolean givesAlike(int m, int n) {
            return given(0, m) == given(0, n) && given(1, m) == given(1, n);
        }

        boolean comesAgain(int apart) {
            for (int m = SWING_FROM; m + apart < MINUTES; m++) {
                if (!givesAlike(m, m + apart)) {
                    return false;
                }
            }
            return true;
        }
    }

    /** The row of wagons whose greatest squeeze is least, found by trying all rows, least first. */
    private static final class BestRow {
        private final int[] row = new int[MOST_ORDERED];
        private final int[] best = new int[MOST_ORDERED];
        private int size = 0;
        // Squeezes are held times the whole weight, which is the same for all rows.
        private int rowAbove = 0, rowBelow = 1, bestAbove = 0, bestBelow = 1, whole = 1;

        void find(Consist consist, int pull, int push) {
            begin(consist);
            boolean isLeft = size > 0;
            for (int tries = 0; tries < MOST_ROWS && isLeft; tries++) {
                weigh(consist, pull, push);
                if (tries == 0 || rowAbove * bestBelow < bestAbove * rowBelow) {
                    keep();
                }
                isLeft = stepOn();
            }
        }

        private void begin(Consist consist) {
            size = consist.size() <= MOST_ORDERED ? consist.size() : 0;
            whole = size > 0 ? consist.whole() : 1;
            bestAbove = 0;
            bestBelow = 1;
            for (int i = 0; i < MOST_ORDERED; i++) {
                row[i] = i;
            }
        }

        private void weigh(Consist consist, int pull, int push) {
            rowAbove = 0;
            rowBelow = 1;
            int ahead = 0;
            for (int i = 0; i < size && i < MOST_ORDERED; i++) {
                int weight = consist.weightOf(row[i]);
                int squeezed = (pull + push) * ahead - pull * whole;
                if (squeezed * rowBelow > rowAbove * weight) {
                    rowAbove = squeezed;
                    rowBelow = weight;
                }
                ahead += weight;
            }
        }

        private void keep() {
            System.arraycopy(row, 0, best, 0, MOST_ORDERED);
            bestAbove = rowAbove;
            bestBelow = rowBelow;
        }

        /** The next row by numbers; false behind the last one. */
        private boolean stepOn() {
            int i = size - 2;
            while (i >= 0 && i + 1 < MOST_ORDERED && row[i] > row[i + 1]) {
                i--;
            }
            if (i < 0) {
                return false;
            }
            int j = Math.min(size, MOST_ORDERED) - 1;
            while (j > i && row[j] < row[i]) {
                j--;
            }
            swap(i, j);
            for (int a = i + 1, b = size - 1; a < b; a++, b--) {
                swap(a, b);
            }
            return true;
        }

        private void swap(int a, int b) {
            if (a >= 0 && a < MOST_ORDERED && b >= 0 && b < MOST_ORDERED) {
                int kept = row[a];
                row[a] = row[b];
                row[b] = kept;
            }
        }

        int wagonAt(int i) {
            return i >= 0 && i < size && i < MOST_ORDERED ? best[i] : NONE;
        }

        int squeezeAbove() {
            return bestAbove;
        }

        int squeezeBelow() {
            return bestBelow * whole;
        }
    }

    /** The trains of a day, and how long they wait for pushers. */
    private static final class Day {
        private final int[] told = new int[MOST_TRAINS];
        private final int[] inTurn = new int[MOST_TRAINS];
        private final int[] freeFrom = new int[MOST_PUSHERS];
        private int size = 0, together = 0, most = 0;

        int size() {
            return size;
        }

        boolean isFull() {
            return size >= MOST_TRAINS;
        }

        void tell(int minute) {
            if (size >= 0 && size < MOST_TRAINS) {
                told[size] = minute;
                size++;
            }
        }

        void forgetLast() {
            size = Math.max(0, size - 1);
        }

        void pushAll(int pushers, int busy) {
            together = 0;
            most = 0;
            sort();
            for (int p = 0; p < MOST_PUSHERS; p++) {
                freeFrom[p] = 0;
            }
            for (int i = 0; i < size && i < MOST_TRAINS; i++) {
                int pusher = firstFree(pushers);
                int begins = Math.max(inTurn[i], freeFrom[pusher]);
                freeFrom[pusher] = begins + busy;
                together += begins - inTurn[i];
                most = Math.max(most, begins - inTurn[i]);
            }
        }

        private int firstFree(int pushers) {
            int first = 0;
            for (int p = 1; p < pushers && p < MOST_PUSHERS; p++) {
                if (freeFrom[p] < freeFrom[first]) {
                    first = p;
                }
            }
            return first;
        }

        private void sort() {
            for (int i = 0; i < size && i < MOST_TRAINS; i++) {
                int j = i;
                while (j > 0 && inTurn[j - 1] > told[i]) {
                    inTurn[j] = inTurn[j - 1];
                    j--;
                }
                inTurn[j] = told[i];
            }
        }

        int waitedTogether() {
            return together;
        }

        int waitedMost() {
            return most;
        }
    }

    /** A row of bytes, shorts or ints, or nothing while it is lost. */
    private static final class Sheet {
        private static final int LOST = -1, BYTES = 0, SHORTS = 1;
        private final int[] items = new int[MOST_ITEMS];
        private int form = LOST, size = 0;

        boolean isLost() {
            return form == LOST;
        }

        boolean isOfForm(int asked) {
            return form == asked;
        }

        int formNumber() {
            return form;
        }

        int size() {
            return size;
        }

        void renew(int newForm, int n) {
            form = newForm;
            size = Math.max(0, Math.min(n, MOST_ITEMS));
            for (int i = 0; i < MOST_ITEMS; i++) {
                items[i] = 0;
            }
        }

        void drop() {
            form = LOST;
            size = 0;
        }

        boolean hasItems(int from, int n) {
            return from >= 0 && n >= 0 && from <= size - n;
        }

        int itemAt(int i) {
            return i >= 0 && i < size && i < items.length ? items[i] : 0;
        }

        void put(int i, int v) {
            if (i >= 0 && i < size && i < items.length) {
                items[i] = cut(v);
            }
        }

        private int cut(int v) {
            if (form == BYTES) {
                return (byte) v;
            }
            return form == SHORTS ? (short) v : v;
        }

        void takeOver(Sheet from, int i, int j, int n) {
            if (from.hasItems(i, n) && hasItems(j, n)) {
                System.arraycopy(from.items, i, items, j, n);
            }
        }
    }
}
