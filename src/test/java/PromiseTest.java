import java.util.HashSet;
import java.util.Set;

/** One method a promise: ordinary calls, the edges that the document names, wrong inputs. */
public final class PromiseTest {
    private static final int NONE = -1, BAD = -2, NOT = -3, FULL = -4;
    private static final int NULL = -11, INDEX = -12, CAST = -13, STORE = -14, SIZE = -15;
    private static final long LONG_BAD = Long.MIN_VALUE + 2, LONG_NOT = Long.MIN_VALUE + 3;
    private static final int LEAST = Integer.MIN_VALUE, MOST = Integer.MAX_VALUE;
    private static final Checks is = new Checks("PromiseTest");
    private static final Set<Integer> tested = new HashSet<>();

    public static void main(String[] args) {
        newObject();
        type();
        wipe();
        undo();
        faultOfTrain();
        faultOfHill();
        wagon();
        hill();
        engine();
        set();
        givesByRules();
        givesLate();
        minuteNeededAndPlace();
        minuteSpeed();
        strain();
        slack();
        torn();
        off();
        offAtBendsAlone();
        over();
        settles();
        swings();
        does();
        start();
        safe();
        order();
        squeeze();
        train();
        back();
        read();
        late();
        enough();
        whistles();
        words();
        sheet();
        lose();
        lay();
        get();
        copy();
        write();
        count();
        digest();
        is.due("promises tested", tested.size(), 38);
        is.due("promises beyond the last one", Document.PROMISED.promise(39).length(), 0);
        is.end();
    }

    /** The calls from here on are about a promise, whose sentence is told whole. */
    private static void promise(int n, String sentence) {
        is.sentence(n, sentence);
        is.holds("this is all of its sentence", Document.PROMISED.promise(n).equals(sentence));
        tested.add(n);
    }

    private static void newObject() {
        promise(1, "No TRAIN; all SHEETS are LOST.");
        PushedOver x = new PushedOver();
        int[] counts = {0, 0, 0, 0, 0, 0, 0, 5, 0};
        for (int i = 0; i < counts.length; i++) {
            is.due("new: count(" + i + ")", x.count(i), counts[i]);
        }
        for (int s = 0; s < 4; s++) {
            is.due("new: lose(" + s + ")", x.lose(s), NULL);
        }
        int[] settings = {300, 20, 10, 5, 5};
        for (int i = 0; i < settings.length; i++) {
            is.due("new: set(" + i + ", 7)", x.set(i, 7), settings[i]);
        }
        int[] engine = {100, 0, 1};
        for (int i = 0; i < engine.length; i++) {
            is.due("new: engine(0, " + i + ", 3)", x.engine(0, i, 3), engine[i]);
            is.due("new: engine(1, " + i + ", 3)", x.engine(1, i, 3), engine[i]);
        }
        is.due("constants", PushedOver.NONE * 1000 + PushedOver.BAD * 100 + PushedOver.NOT * 10 + PushedOver.FULL, -1234);
    }

    private static void type() {
        promise(2, "A byte (0 to 255) comes behind a text: how many. BAD; FULL.");
        PushedOver x = new PushedOver();
        for (int i = 1; i <= 12; i++) {
            is.due("type(0, 0)", x.type(0, 0), i);
        }
        for (int i = 1; i <= 32; i++) {
            is.due("type(1, 255)", x.type(1, 255), i);
        }
        is.due("type(0, 49) full", x.type(0, 49), FULL);
        is.due("type(1, 49) full", x.type(1, 49), FULL);
        is.due("type(0, 256) full", x.type(0, 256), BAD);
        is.due("type(1, -1) full", x.type(1, -1), BAD);
        is.due("count(2)", x.count(2), 12);
        is.due("count(3)", x.count(3), 32);
        PushedOver y = new PushedOver();
        int[][] wrong = {{-1, 49}, {2, 49}, {LEAST, 49}, {MOST, 49}, {0, -1}, {0, 256}, {1, LEAST}, {1, MOST}};
        for (int[] w : wrong) {
            is.due("type(" + w[0] + ", " + w[1] + ")", y.type(w[0], w[1]), BAD);
        }
        is.due("count(2) behind wrong ones", y.count(2), 0);
        is.due("count(3) behind wrong ones", y.count(3), 0);
    }

    private static void wipe() {
        promise(3, "A text is empty: how many bytes it had. BAD.");
        PushedOver x = Built.with("123", "4b5");
        is.due("wipe(0)", x.wipe(0), 3);
        is.due("count(0)", x.count(0), 0);
        is.due("count(3) stays", x.count(3), 3);
        is.due("wipe(0) again", x.wipe(0), 0);
        is.due("wipe(1)", x.wipe(1), 3);
        is.due("count(1)", x.count(1), 0);
        is.due("wipe(-1)", x.wipe(-1), BAD);
        is.due("wipe(2)", x.wipe(2), BAD);
        is.due("type behind wipe", x.type(0, '7'), 1);
        is.due("wagon(0) behind wipe", x.wagon(0), 7);
    }

    private static void undo() {
        promise(4, "The last byte of a text is undone: how many are left. BAD; NOT: it is empty.");
        PushedOver x = Built.with("12", "4b");
        is.due("undo(0)", x.undo(0), 1);
        is.due("wagon(0)", x.wagon(0), 1);
        is.due("wagon(1)", x.wagon(1), BAD);
        is.due("undo(0)", x.undo(0), 0);
        is.due("undo(0) of none", x.undo(0), NOT);
        is.due("undo(1)", x.undo(1), 1);
        is.due("hill(0, 1) without its b", x.hill(0, 1), 0);
        is.due("undo(2)", x.undo(2), BAD);
        is.due("undo(-1)", x.undo(-1), BAD);
    }

    private static void faultOfTrain() {
        promise(5, "The FAULT of a text; NONE. BAD.");
        is.due("fault of ''", Built.with("", "").fault(0), NONE);
        is.due("fault of 123456789123", Built.with("123456789123", "").fault(0), NONE);
        is.due("fault of 0", Built.with("0", "").fault(0), 0);
        is.due("fault of 12:3:", Built.with("12:3:", "").fault(0), 2);
        is.due("fault of 1/", Built.with("1/", "").fault(0), 1);
        is.due("fault of 1b", Built.with("1b", "").fault(0), 1);
        PushedOver x = Built.with("12x", "");
        is.due("WAGONS with a fault", x.count(0), 0);
        is.due("WHOLE with a fault", x.count(5), 0);
        is.due("bytes with a fault", x.count(2), 3);
        is.due("strain with a fault", x.strain(0, 0, 0), LONG_NOT);
        is.due("fault(-1)", x.fault(-1), BAD);
        is.due("fault(2)", x.fault(2), BAD);
    }

    private static void faultOfHill() {
        promise(5, "The FAULT of a text; NONE. BAD.");
        is.due("fault of no hill", Built.with("", "").fault(1), NONE);
        is.due("fault of 0b9", Built.with("", "0b9").fault(1), NONE);
        is.due("fault of b", Built.with("", "b").fault(1), 0);
        is.due("fault of 1bb", Built.with("", "1bb").fault(1), 2);
        is.due("fault of 1B", Built.with("", "1B").fault(1), 1);
        is.due("fault of 12/", Built.with("", "12/").fault(1), 2);
        is.due("fault of 12:", Built.with("", "12:").fault(1), 2);
        String sixteen = "0123456789012345";
        is.due("fault of 16 places", Built.with("", sixteen).fault(1), NONE);
        is.due("fault of 16 places, b", Built.with("", sixteen + "b").fault(1), NONE);
        is.due("fault of 16 places, bb", Built.with("", sixteen + "bb").fault(1), 17);
        is.due("fault of 17 places", Built.with("", sixteen + "6").fault(1), 16);
        is.due("fault of 16 places, b, one more", Built.with("", sixteen + "b6b").fault(1), 17);
        PushedOver x = Built.with("1", "1b".repeat(16));
        is.due("fault of 16 bends", x.fault(1), NONE);
        is.due("BENDS", x.count(6), 16);
        PushedOver y = Built.with("5", "9b9bx");
        is.due("PLACES with a fault", y.count(1), 0);
        is.due("BENDS with a fault", y.count(6), 0);
        is.due("NEEDED with a fault", y.minute(0, 0), 0);
        is.due("bytes with a fault", y.count(3), 5);
    }

    private static void wagon() {
        promise(6, "WEIGHT of a WAGON. BAD.");
        PushedOver x = Built.with("91", "");
        is.due("wagon(0)", x.wagon(0), 9);
        is.due("wagon(1)", x.wagon(1), 1);
        is.due("wagon(2)", x.wagon(2), BAD);
        is.due("wagon(-1)", x.wagon(-1), BAD);
        is.due("wagon(least)", x.wagon(LEAST), BAD);
        is.due("wagon(most)", x.wagon(MOST), BAD);
        is.due("wagon(11)", Built.with("111111111118", "").wagon(11), 8);
    }

    private static void hill() {
        promise(7, "How STEEP a PLACE is (what = 0), whether there is a BEND (1). BAD.");
        PushedOver x = Built.with("", "0b93b");
        int[][] due = {{0, 1}, {9, 0}, {3, 1}};
        for (int place = 0; place < 3; place++) {
            is.due("hill(" + place + ", 0)", x.hill(place, 0), due[place][0]);
            is.due("hill(" + place + ", 1)", x.hill(place, 1), due[place][1]);
        }
        int[][] wrong = {{3, 0}, {3, 1}, {-1, 0}, {LEAST, 1}, {MOST, 1}, {0, 2}, {0, -1}};
        for (int[] w : wrong) {
            is.due("hill(" + w[0] + ", " + w[1] + ")", x.hill(w[0], w[1]), BAD);
        }
    }

    private static void engine() {
        promise(8, "GIVES (what = 0), RULE (1), LAG (2) of an engine: what it was. BAD.");
        PushedOver x = new PushedOver();
        int[] least = {0, 0, 1}, most = {999, 3, 5};
        for (int e = 0; e < 2; e++) {
            for (int what = 0; what < 3; what++) {
                x.engine(e, what, most[what]);
                is.due("engine, one too many", x.engine(e, what, most[what] + 1), BAD);
                is.due("engine, one too few", x.engine(e, what, least[what] - 1), BAD);
                is.due("engine, least", x.engine(e, what, least[what]), most[what]);
                is.due("engine, what it was", x.engine(e, what, most[what]), least[what]);
            }
        }
        is.due("engine(2, 0, 1)", x.engine(2, 0, 1), BAD);
        is.due("engine(-1, 0, 1)", x.engine(-1, 0, 1), BAD);
        is.due("engine(0, -1, 1)", x.engine(0, -1, 1), BAD);
        is.due("engine(0, 3, 1)", x.engine(0, 3, 1), BAD);
        PushedOver y = Built.with("1", "", 11, 22);
        is.due("the front gives its own", y.gives(0, 0), 11);
        is.due("the back gives its own", y.gives(0, 1), 22);
    }

    private static void set() {
        promise(9, "TEAR (what = 0), HOLD (1), UP (2), DOWN (3), SPEED in MINUTE 0 (4): what it was. BAD.");
        PushedOver x = new PushedOver();
        int[] least = {1, 1, 1, 1, 0}, most = {999, 99, 99, 99, 20};
        for (int what = 0; what < 5; what++) {
            x.set(what, most[what]);
            is.due("set, one too many", x.set(what, most[what] + 1), BAD);
            is.due("set, one too few", x.set(what, least[what] - 1), BAD);
            is.due("set, least", x.set(what, least[what]), most[what]);
            is.due("set, what it was", x.set(what, least[what]), least[what]);
        }
        is.due("set(-1, 1)", x.set(-1, 1), BAD);
        is.due("set(5, 1)", x.set(5, 1), BAD);
        is.due("count(7)", x.count(7), 0);
    }

    private static void givesByRules() {
        promise(10, "What an engine gives in a MINUTE. BAD.");
        PushedOver x = Built.with("5", "9", 30, 10);
        Built.rule(x, 1, 1, 2);
        dueRow("leans", x, 1, 10, 10, 15, 15);
        x.engine(0, 0, 100);
        dueRow("leans, 0 at least", x, 1, 10, 10, 0, 0);
        x.engine(0, 0, 20);
        x.engine(1, 0, 7);
        Built.rule(x, 1, 3, 1);
        dueRow("goes half", x, 1, 7, 16, 20, 22, 23, 24, 24, 24);
        Built.rule(x, 1, 2, 3);
        dueRow("matches", x, 1, 7, 7, 7, 20, 20);
        Built.rule(x, 1, 0, 3);
        dueRow("gives", x, 1, 7, 7, 7, 7, 7);
        int[][] wrong = {{-1, 0}, {40, 0}, {LEAST, 1}, {MOST, 1}, {0, -1}, {0, 2}};
        for (int[] w : wrong) {
            is.due("gives(" + w[0] + ", " + w[1] + ")", x.gives(w[0], w[1]), BAD);
        }
    }

    private static void givesLate() {
        promise(10, "What an engine gives in a MINUTE. BAD.");
        PushedOver x = Built.with("5", "9", 30, 10);
        Built.rule(x, 0, 2, 2);
        Built.rule(x, 1, 2, 3);
        dueRow("front matches, 2 ago", x, 0, 30, 30, 10, 10, 10, 30, 30, 10);
        dueRow("back matches, 3 ago", x, 1, 10, 10, 10, 30, 30, 10, 10, 10);
        PushedOver y = Built.with("5", "19", 0, 0);
        y.set(4, 10);
        Built.rule(y, 0, 1, 1);
        // What is NEEDED is that of the minute itself: place 0 needs 5, place 1 needs 45.
        dueRow("leans on this minute's need", y, 0, 0, 45, 45);
        PushedOver z = Built.with("", "9", 50, 60);
        Built.rule(z, 0, 1, 5);
        dueRow("leans without wagons", z, 0, 50, 50, 50, 50, 50, 0, 0);
    }

    private static void dueRow(String name, PushedOver x, int engine, int... due) {
        for (int m = 0; m < due.length; m++) {
            is.due(name + ", minute " + m, x.gives(m, engine), due[m]);
        }
    }

    private static void minuteNeededAndPlace() {
        promise(11, "NEEDED (what = 0), SPEED (1), the PLACE (2; NONE: beyond the last, or there are none). BAD.");
        PushedOver x = Built.with("12", "071", 0, 0);
        x.set(4, 20);
        // Nothing is given: 20 in minute 0 and, where nothing is needed, 20 again in minute 1.
        int[] needed = {0, 3, 3, 3}, place = {0, 2, NONE, NONE}, speed = {20, 20, 19, 18};
        for (int m = 0; m < 4; m++) {
            is.due("minute(" + m + ", 0)", x.minute(m, 0), needed[m]);
            is.due("minute(" + m + ", 1)", x.minute(m, 1), speed[m]);
            is.due("minute(" + m + ", 2)", x.minute(m, 2), place[m]);
        }
        PushedOver y = Built.with("12", "071", 0, 0);
        // Tenths gone: 0, 5, 10, 15 (slower from place 1 on), 19, 22.
        int[] places = {0, 0, 1, 1, 1, 2};
        for (int m = 0; m < places.length; m++) {
            is.due("place in minute " + m, y.minute(m, 2), places[m]);
        }
        is.due("no places: PLACE", Built.with("12", "").minute(0, 2), NONE);
        is.due("no places: NEEDED", Built.with("12", "").minute(9, 0), 0);
        int[][] wrong = {{-1, 0}, {40, 0}, {MOST, 0}, {0, -1}, {0, 3}};
        for (int[] w : wrong) {
            is.due("minute(" + w[0] + ", " + w[1] + ")", y.minute(w[0], w[1]), BAD);
        }
    }

    private static void minuteSpeed() {
        promise(11, "NEEDED (what = 0), SPEED (1), the PLACE (2; NONE: beyond the last, or there are none). BAD.");
        PushedOver x = Built.with("9", "9", 0, 0);
        for (int m = 0; m < 40; m++) {
            is.due("slower, minute " + m, x.minute(m, 1), Math.max(0, 5 - m));
            is.due("as steep beyond, minute " + m, x.minute(m, 0), 81);
        }
        x.engine(0, 0, 80);
        x.engine(1, 0, 2);
        for (int m = 0; m < 40; m++) {
            is.due("quicker, minute " + m, x.minute(m, 1), Math.min(20, 5 + m));
        }
        x.engine(1, 0, 1);
        is.due("as quick, minute 39", x.minute(39, 1), 5);
        x.engine(1, 0, 0);
        is.due("80 are less than 81", x.minute(1, 1), 4);
    }

    private static void strain() {
        promise(12, "STRAIN: above, below. BAD; NOT. (As the least long.)");
        PushedOver x = Built.with("123", "", 100, 50);
        int[] due = {100, 75, 25, -50};
        for (int k = 0; k < due.length; k++) {
            is.due("strain(0, " + k + ", 0)", x.strain(0, k, 0), due[k]);
            is.due("strain(0, " + k + ", 1)", x.strain(0, k, 1), 1);
        }
        PushedOver y = Built.with("46", "", 10, 3);
        is.due("10 less 13 times 4 by 10, above", y.strain(5, 1, 0), 24);
        is.due("10 less 13 times 4 by 10, below", y.strain(5, 1, 1), 5);
        y.engine(0, 0, 3);
        y.engine(1, 0, 10);
        is.due("3 less 13 times 4 by 10, above", y.strain(39, 1, 0), -11);
        is.due("3 less 13 times 4 by 10, below", y.strain(39, 1, 1), 5);
        PushedOver zero = Built.with("11", "", 7, 7);
        is.due("0, above", zero.strain(0, 1, 0), 0);
        is.due("0, below", zero.strain(0, 1, 1), 1);
        int[][] wrong = {{-1, 0, 0}, {40, 0, 0}, {0, -1, 0}, {0, 3, 0}, {0, 0, -1}, {0, 0, 2}, {LEAST, MOST, 0}};
        for (int[] w : wrong) {
            is.due("strain(" + w[0] + ", " + w[1] + ", " + w[2] + ")", y.strain(w[0], w[1], w[2]), LONG_BAD);
        }
        PushedOver none = new PushedOver();
        is.due("no wagons", none.strain(0, 0, 1), LONG_NOT);
        is.due("no wagons, no such coupling", none.strain(0, 1, 0), LONG_BAD);
        is.due("no wagons, no such what", none.strain(0, 0, 2), LONG_BAD);
    }

    private static void slack() {
        promise(13, "SLACK; NONE. BAD; NOT.");
        PushedOver x = Built.with("11", "", 100, 100);
        is.due("slack at a strain of 0", x.slack(0), 1);
        x.engine(0, 0, 101);
        is.due("slack below 0", x.slack(0), 2);
        x.engine(1, 0, 0);
        is.due("slack behind all", x.slack(39), 2);
        x.engine(0, 0, 0);
        is.due("slack ahead of all", x.slack(39), 0);
        is.due("slack(-1)", x.slack(-1), BAD);
        is.due("slack(40)", x.slack(40), BAD);
        is.due("slack(0), no wagons", new PushedOver().slack(0), NOT);
        is.due("slack(40), no wagons", new PushedOver().slack(40), BAD);
        PushedOver y = Built.with("11", "", 100, 0);
        Built.rule(y, 1, 2, 3);
        is.due("slack, nothing pushed yet", y.slack(2), 2);
        is.due("slack, pushed by then", y.slack(3), 1);
    }

    private static void torn() {
        promise(14, "TORN; NONE.");
        PushedOver x = Built.with("1", "", 300, 999);
        is.due("as much as TEAR", x.torn(), NONE);
        x.set(0, 299);
        is.due("more than TEAR", x.torn(), 0);
        x.set(0, 300);
        Built.rule(x, 0, 2, 4);
        is.due("torn late", x.torn(), 4);
        x.set(0, 999);
        is.due("strong", x.torn(), NONE);
        x.set(0, 300);
        x.wipe(0);
        is.due("no wagons", x.torn(), NONE);
    }

    private static void off() {
        promise(15, "OFF: the MINUTE (what = 0), the WAGON (1); NONE. BAD.");
        PushedOver x = Built.with("11", "0b", 0, 40);
        is.due("as much as HOLD", x.off(0), NONE);
        is.due("as much as HOLD: no wagon", x.off(1), NONE);
        x.engine(1, 0, 41);
        is.due("more than HOLD: minute", x.off(0), 0);
        is.due("more than HOLD: wagon", x.off(1), 1);
        x.set(1, 21);
        is.due("held better", x.off(0), NONE);
        PushedOver y = Built.with("219", "0b", 0, 120);
        // Squeezed ahead of them by 0, 20 and 30: HOLD times WEIGHT is 38, 19 and 171.
        y.set(1, 19);
        is.due("the light one: wagon", y.off(1), 1);
        y.set(1, 20);
        is.due("as much as it holds", y.off(1), NONE);
        PushedOver two = Built.with("111", "0b", 0, 999);
        is.due("the first of two wagons", two.off(1), 1);
        is.due("off(2)", x.off(2), BAD);
        is.due("off(-1)", x.off(-1), BAD);
        is.due("no wagons", Built.with("", "0b", 0, 999).off(0), NONE);
    }

    private static void offAtBendsAlone() {
        promise(15, "OFF: the MINUTE (what = 0), the WAGON (1); NONE. BAD.");
        is.due("no bend", Built.with("11", "000", 0, 999).off(0), NONE);
        PushedOver x = Built.with("11", "00b", 0, 999);
        is.due("at the bend", x.off(0), 2);
        x.set(4, 20);
        is.due("over it at once", x.off(0), NONE);
        PushedOver y = Built.with("11", "0b", 100, 0);
        y.set(4, 10);
        Built.rule(y, 0, 2, 1);
        Built.rule(y, 1, 2, 1);
        is.due("beyond the last place there is no bend", y.off(0), NONE);
        y.type(1, '0');
        is.due("nor in a place without one", y.off(0), NONE);
        y.type(1, 'b');
        is.due("but in one with a bend: minute", y.off(0), 1);
        is.due("but in one with a bend: wagon", y.off(1), 1);
    }

    private static void over() {
        promise(16, "OVER; NONE.");
        PushedOver x = Built.with("1", "0", 0, 0);
        x.set(4, 10);
        is.due("a place in a minute", x.over(), 1);
        x.set(4, 9);
        is.due("nine tenths in a minute", x.over(), 2);
        x.set(4, 0);
        is.due("it stands", x.over(), NONE);
        x.wipe(1);
        x.set(4, 20);
        is.due("no places", x.over(), NONE);
        PushedOver y = Built.with("", "000", 0, 0);
        y.set(4, 1);
        is.due("no wagons, slow", y.over(), 30);
        y.type(1, '0');
        is.due("minute 39 is the last", y.over(), NONE);
    }

    /** A train whose front gives what is needed from the minute on in which the last place comes. */
    private static PushedOver leaning(String hill, int speed) {
        PushedOver x = Built.with("1", hill, 0, 0);
        x.set(4, speed);
        Built.rule(x, 0, 1, 1);
        return x;
    }

    private static void settles() {
        promise(17, "SETTLES; NONE.");
        is.due("always the same", Built.with("1", "5").settles(), 0);
        PushedOver x = Built.with("1", "", 100, 0);
        Built.rule(x, 1, 2, 5);
        is.due("matches, 5 ago", x.settles(), 5);
        x.engine(1, 0, 100);
        is.due("matches what it gave", x.settles(), 0);
        is.due("minute 30", leaning("0001", 1).settles(), 30);
        PushedOver y = leaning("0".repeat(15) + "1", 4);
        is.due("minute 38 at most", y.settles(), 38);
        Built.rule(y, 1, 2, 1);
        is.due("minute 39 is too late", y.settles(), NONE);
        PushedOver z = Built.with("1", "", 100, 0);
        Built.rule(z, 0, 2, 1);
        Built.rule(z, 1, 2, 1);
        is.due("to and fro", z.settles(), NONE);
    }

    private static void swings() {
        promise(18, "SWINGS; NONE.");
        is.due("always the same", Built.with("1", "5").swings(), 1);
        PushedOver x = Built.with("1", "", 100, 0);
        for (int lag = 1; lag <= 5; lag++) {
            Built.rule(x, 0, 2, lag);
            Built.rule(x, 1, 2, lag);
            is.due("both match, " + lag + " ago", x.swings(), 2 * lag);
        }
        Built.rule(x, 0, 2, 4);
        is.due("4 and 5 ago", x.swings(), 9);
        is.due("settled in minute 20", leaning("001", 1).swings(), 1);
        is.due("settled in minute 30", leaning("0001", 1).swings(), NONE);
        is.due("settled in minute 38", leaning("0".repeat(15) + "1", 4).swings(), NONE);
        PushedOver half = leaning("001", 1);
        half.wipe(0);
        half.type(0, '3');
        Built.rule(half, 0, 3, 1);
        is.due("half and half: settled in minute 21", half.settles(), 21);
        is.due("minute 20 is the first that counts", half.swings(), NONE);
        PushedOver turned = Built.with("9", "9", 0, 50);
        Built.rule(turned, 0, 1, 3);
        Built.rule(turned, 1, 2, 3);
        is.due("turned over every 6 minutes", turned.swings(), 12);
        Built.rule(turned, 0, 1, 4);
        is.due("turned over every 7 minutes", turned.swings(), NONE);
        is.due("settled in minute 25", leaning("000001", 2).swings(), NONE);
    }

    private static void does() {
        promise(19, "DOES: above, below. BAD.");
        int[][] cases = {{100, 50, 2, 3}, {0, 0, 0, 1}, {0, 5, 0, 1}, {5, 0, 1, 1}, {999, 998, 999, 1997}};
        for (int[] c : cases) {
            PushedOver x = Built.with("1", "", c[0], c[1]);
            is.due("does(0) of " + c[0] + " and " + c[1], x.does(0), c[2]);
            is.due("does(1) of " + c[0] + " and " + c[1], x.does(1), c[3]);
        }
        PushedOver x = Built.with("", "", 100, 0);
        Built.rule(x, 1, 2, 4);
        // The back gives 100 in 36 minutes of 40.
        is.due("does(0), late", x.does(0), 10);
        is.due("does(1), late", x.does(1), 19);
        is.due("does(2)", x.does(2), BAD);
        is.due("does(-1)", x.does(-1), BAD);
    }

    private static void start() {
        promise(20, "START: 0, 1, 2. BAD.");
        PushedOver x = Built.with("11", "", 100, 100);
        is.due("together", x.start(0, 0), 0);
        is.due("together, later", x.start(9, 9), 0);
        is.due("the back alone", x.start(9, 0), 2);
        is.due("the front alone", x.start(0, 9), 0);
        x.set(0, 189);
        is.due("the front alone, too much", x.start(0, 9), 1);
        is.due("the front alone, a second less", x.start(0, 8), 0);
        x.engine(1, 0, 0);
        is.due("the back alone gives 40", x.start(4, 0), 0);
        is.due("the back alone gives 50", x.start(5, 0), 2);
        x.engine(1, 0, 31);
        is.due("the back alone gives 41", x.start(1, 0), 2);
        x.engine(0, 0, 190);
        x.engine(1, 0, 999);
        is.due("torn rather than squeezed", x.start(3, 3), 1);
        x.set(0, 190);
        is.due("squeezed, together", x.start(3, 3), 2);
        x.set(0, 999);
        x.engine(0, 0, 999);
        is.due("more than 999", x.start(8, 9), 1);
        is.due("no wagons", Built.with("", "", 999, 999).start(0, 9), 0);
        int[][] wrong = {{-1, 0}, {10, 0}, {0, -1}, {0, 10}, {LEAST, MOST}};
        for (int[] w : wrong) {
            is.due("start(" + w[0] + ", " + w[1] + ")", x.start(w[0], w[1]), BAD);
        }
    }

    private static void safe() {
        promise(21, "SAFE: in how many (what = 0), the least (1; NONE). BAD.");
        PushedOver x = Built.with("11", "", 100, 100);
        is.due("not the back alone", x.safe(0), 55);
        is.due("not the back alone, least", x.safe(1), 0);
        x.set(0, 99);
        is.due("no pair", x.safe(0), 0);
        is.due("no pair, least", x.safe(1), NONE);
        PushedOver y = Built.with("1", "", 301, 0);
        is.due("the back alone, always", y.safe(0), 45);
        is.due("the back alone, least", y.safe(1), 10);
        is.due("no wagons", new PushedOver().safe(0), 100);
        is.due("safe(2)", x.safe(2), BAD);
        is.due("safe(-1)", x.safe(-1), BAD);
    }

    private static void order() {
        promise(22, "ORDER: the i-th WAGON (0 to 5; NONE). BAD.");
        PushedOver x = Built.with("21", "", 0, 60);
        is.due("the light one ahead", x.order(0), 1);
        is.due("the heavy one behind", x.order(1), 0);
        is.due("no third one", x.order(2), NONE);
        x.engine(1, 0, 0);
        is.due("no squeeze: least row", x.order(0), 0);
        PushedOver six = Built.with("111112", "", 0, 600);
        int[] due = {0, 1, 2, 3, 4, 5};
        for (int i = 0; i < 6; i++) {
            is.due("order(" + i + ") of 111112", six.order(i), due[i]);
        }
        six.wipe(0);
        is.due("no wagons", six.order(0), NONE);
        dueOrder("4321", 100, 3, 2, 1, 0);
        // The heaviest one has to be the last; the least row in which no other one is squeezed more.
        dueOrder("654321", 42, 4, 5, 2, 3, 1, 0);
        PushedOver seven = Built.with("1111111", "");
        is.due("seven wagons", seven.order(0), NONE);
        seven.undo(0);
        is.due("six wagons again", seven.order(5), 5);
        is.due("order(6)", seven.order(6), BAD);
        is.due("order(-1)", seven.order(-1), BAD);
        is.due("order(6) of seven", Built.with("1111111", "").order(6), BAD);
    }

    private static void dueOrder(String train, int push, int... due) {
        PushedOver x = Built.with(train, "", 0, push);
        for (int i = 0; i < due.length; i++) {
            is.due("order(" + i + ") of " + train, x.order(i), due[i]);
        }
    }

    private static void squeeze() {
        promise(23, "SQUEEZE by ORDER: above, below (0 by 1: no WAGONS, more than 6). BAD.");
        PushedOver x = Built.with("21", "", 0, 60);
        is.due("20 by 2, above", x.squeeze(0), 10);
        is.due("20 by 2, below", x.squeeze(1), 1);
        x.engine(1, 0, 61);
        // 61 times 1 by 3, by 2.
        is.due("61 by 6, above", x.squeeze(0), 61);
        is.due("61 by 6, below", x.squeeze(1), 6);
        x.engine(0, 0, 999);
        is.due("pulled: above", x.squeeze(0), 0);
        is.due("pulled: below", x.squeeze(1), 1);
        is.due("of 4321", Built.with("4321", "", 0, 100).squeeze(0), 15);
        is.due("of 654321", Built.with("654321", "", 0, 42).squeeze(0), 5);
        PushedOver seven = Built.with("1111111", "", 0, 999);
        is.due("seven, above", seven.squeeze(0), 0);
        is.due("seven, below", seven.squeeze(1), 1);
        is.due("none, below", new PushedOver().squeeze(1), 1);
        is.due("squeeze(2)", x.squeeze(2), BAD);
        is.due("squeeze(-1)", x.squeeze(-1), BAD);
    }

    private static void train() {
        promise(24, "A TRAIN of the day more: how many. BAD; FULL.");
        PushedOver x = new PushedOver();
        is.due("train(-1)", x.train(-1), BAD);
        is.due("train(1000)", x.train(1000), BAD);
        is.due("none so far", x.count(4), 0);
        for (int i = 1; i <= 12; i++) {
            is.due("train " + i, x.train(i % 2 == 0 ? 0 : 999), i);
        }
        is.due("a thirteenth", x.train(5), FULL);
        is.due("a thirteenth, wrong", x.train(1000), BAD);
        is.due("twelve", x.count(4), 12);
    }

    private static void back() {
        promise(25, "The last TRAIN of the day is undone: how many are left. NOT: there is none.");
        PushedOver x = new PushedOver();
        is.due("back() of none", x.back(), NOT);
        x.train(50);
        x.train(0);
        x.train(1);
        is.due("back()", x.back(), 2);
        // The last one told went, not the last one by minutes: 0 and 50 are left.
        is.due("late behind back()", x.late(1, 0), 0);
        is.due("back()", x.back(), 1);
        is.due("back()", x.back(), 0);
        is.due("back() of none", x.back(), NOT);
    }

    private static void read() {
        promise(26, "TRAINS of the day by a SHEET, item by item, as long as each may be: how many. BAD; NULL.");
        PushedOver x = Built.withSheet(1, 0, 999, 1000, 5);
        is.due("read(0), up to 1000", x.read(0), 2);
        is.due("trains", x.count(4), 2);
        is.due("read(0) adds", x.read(0), 2);
        is.due("trains, more", x.count(4), 4);
        is.due("up to one below 0", Built.withSheet(0, 3, 4, 5, -1, 6).read(0), 3);
        is.due("the first is wrong", Built.withSheet(2, 1000, 1).read(0), 0);
        is.due("no items", Built.withSheet(2).read(0), 0);
        PushedOver y = Built.withSheet(2, new int[20]);
        y.train(7);
        is.due("until there are twelve", y.read(0), 11);
        is.due("twelve", y.count(4), 12);
        is.due("twelve already", y.read(0), 0);
        is.due("read(1)", y.read(1), NULL);
        is.due("read(1), finding", y.count(8), 1);
        is.due("read(4)", y.read(4), BAD);
        is.due("read(-1)", y.read(-1), BAD);
    }

    private static void late() {
        promise(27, "LATE: together (what = 0), the most (1). BAD.");
        PushedOver x = Built.withDay(20, 0, 3);
        // One pusher is busy for 15 minutes: 0 at 0, 3 at 15, 20 at 30.
        is.due("late(1, 0)", x.late(1, 0), 22);
        is.due("late(1, 1)", x.late(1, 1), 12);
        is.due("late(2, 0)", x.late(2, 0), 0);
        x.set(2, 30);
        x.set(3, 1);
        // Two pushers: 0 and 3 go at once, 20 waits for the first one until 31.
        is.due("late(2, 0), slow", x.late(2, 0), 11);
        is.due("late(2, 1), slow", x.late(2, 1), 11);
        is.due("late(3, 0), slow", x.late(3, 0), 0);
        is.due("no trains", new PushedOver().late(6, 1), 0);
        PushedOver all = Built.withDay(new int[12]);
        int[] together = {990, 450, 270, 180, 135, 90};
        int[] most = {165, 75, 45, 30, 30, 15};
        for (int n = 1; n <= 6; n++) {
            is.due("twelve at once, together by " + n, all.late(n, 0), together[n - 1]);
            is.due("twelve at once, most by " + n, all.late(n, 1), most[n - 1]);
        }
        is.due("a train as one comes free", Built.withDay(0, 15).late(1, 0), 0);
        int[][] wrong = {{0, 0}, {7, 0}, {-1, 1}, {1, 2}, {1, -1}};
        for (int[] w : wrong) {
            is.due("late(" + w[0] + ", " + w[1] + ")", x.late(w[0], w[1]), BAD);
        }
    }

    private static void enough() {
        promise(28, "ENOUGH; NONE. BAD.");
        PushedOver all = Built.withDay(new int[12]);
        int[][] cases = {{165, 1}, {164, 2}, {75, 2}, {74, 3}, {45, 3}, {44, 4}, {30, 4}, {29, 6}, {15, 6}, {14, NONE}};
        for (int[] c : cases) {
            is.due("enough(" + c[0] + ")", all.enough(c[0]), c[1]);
        }
        is.due("enough(999)", all.enough(999), 1);
        is.due("enough(0)", all.enough(0), NONE);
        is.due("no trains", new PushedOver().enough(0), 1);
        is.due("enough(-1)", all.enough(-1), BAD);
        is.due("enough(1000)", all.enough(1000), BAD);
    }

    private static void whistles() {
        promise(29, "WHISTLES: above, below. BAD (j 0 to k). (As the least long.)");
        PushedOver x = new PushedOver();
        is.due("whistles(5, 7, 3, 0)", x.whistles(5, 7, 3, 0), 138915);
        is.due("whistles(5, 7, 3, 1)", x.whistles(5, 7, 3, 1), 524288);
        is.due("none heard, above", x.whistles(9, 0, 0, 0), 1);
        is.due("none heard, below", x.whistles(9, 0, 0, 1), 1);
        is.due("one of none heard, above", x.whistles(9, 0, 1, 0), 0);
        is.due("one of none heard, below", x.whistles(9, 0, 1, 1), 1);
        is.due("all heard", x.whistles(9, 16, 9, 0), 1);
        is.due("15 sixteenths, nine times, above", x.whistles(9, 15, 9, 0), 38443359375L);
        is.due("15 sixteenths, nine times, below", x.whistles(9, 15, 9, 1), 68719476736L);
        is.due("no whistles", x.whistles(0, 9, 0, 1), 1);
        int[][] wrong = {{-1, 0, 0, 0}, {10, 0, 0, 0}, {1, -1, 0, 0}, {1, 17, 0, 0}, {1, 1, -1, 0}, {1, 1, 2, 0},
            {1, 1, 1, 2}, {1, 1, 1, -1}};
        for (int[] w : wrong) {
            is.due("whistles(" + w[0] + ", " + w[1] + ", " + w[2] + ", " + w[3] + ")",
                x.whistles(w[0], w[1], w[2], w[3]), LONG_BAD);
        }
    }

    private static void words() {
        promise(30, "WORDS. BAD.");
        PushedOver x = new PushedOver();
        int[] due = {9, 5, 3, 3, 2, 2, 2, 2, 1, 1};
        for (int m = 0; m < due.length; m++) {
            is.due("words(" + m + ")", x.words(m), due[m]);
        }
        is.due("words(-1)", x.words(-1), BAD);
        is.due("words(10)", x.words(10), BAD);
        is.due("words(most)", x.words(MOST), BAD);
    }

    private static void sheet() {
        promise(31, "A SHEET is a new row of a FORM with n items: n. BAD: SHEET, FORM, above 60; SIZE.");
        PushedOver x = new PushedOver();
        for (int form = 0; form < 3; form++) {
            is.due("sheet(3, form, 60)", x.sheet(3, form, 60), 60);
            is.due("item 59", x.get(3, form, 59), 0);
            x.lay(3, form, 59, 1);
        }
        is.due("sheet anew", x.sheet(3, 2, 60), 60);
        is.due("item 59 anew", x.get(3, 2, 59), 0);
        is.due("sheet(3, 2, 0)", x.sheet(3, 2, 0), 0);
        is.due("no item 0", x.get(3, 2, 0), LEAST);
        is.due("lose(3) of 0", x.lose(3), 0);
        int[][] wrong = {{-1, 0, 1}, {4, 0, 1}, {0, -1, 1}, {0, 3, 1}, {0, 0, 61}, {0, 0, MOST}, {4, 0, -1}, {0, 3, -1}};
        for (int[] w : wrong) {
            is.due("sheet(" + w[0] + ", " + w[1] + ", " + w[2] + ")", x.sheet(w[0], w[1], w[2]), BAD);
        }
        is.due("latest finding", x.count(8), 2);
        x.sheet(0, 1, 4);
        is.due("sheet(0, 0, -1)", x.sheet(0, 0, -1), SIZE);
        is.due("latest finding", x.count(8), 5);
        is.due("sheet(0, 0, least)", x.sheet(0, 0, LEAST), SIZE);
        is.due("it has not changed", x.lose(0), 4);
    }

    private static void lose() {
        promise(32, "It is LOST: how many items it had. BAD; NULL.");
        PushedOver x = Built.withSheet(0, 1, 2, 3);
        is.due("lose(0)", x.lose(0), 3);
        is.due("lose(0) again", x.lose(0), NULL);
        is.due("latest finding", x.count(8), 1);
        is.due("lay in a lost one", x.lay(0, 0, 0, 1), NULL);
        is.due("lose(-1)", x.lose(-1), BAD);
        is.due("lose(4)", x.lose(4), BAD);
    }

    private static void lay() {
        promise(33, "Item i, treated as of a FORM, becomes v (the lowest bits that it has): 1. BAD; NULL; "
            + "CAST; INDEX.");
        PushedOver x = new PushedOver();
        int[][] cases = {{0, 200, -56}, {0, 256, 0}, {0, -129, 127}, {1, 40000, -25536}, {1, 65536, 0},
            {1, 200, 200}, {2, LEAST, LEAST}, {2, 65536, 65536}};
        for (int[] c : cases) {
            x.sheet(1, c[0], 2);
            is.due("lay " + c[1], x.lay(1, c[0], 1, c[1]), 1);
            is.due("laid " + c[1] + " in form " + c[0], x.get(1, c[0], 1), c[2]);
            is.due("beside it", x.get(1, c[0], 0), 0);
        }
        is.due("no such sheet", x.lay(4, 0, 0, 1), BAD);
        is.due("no such form", x.lay(1, 3, 0, 1), BAD);
        is.due("no such form of a lost one", x.lay(0, -1, 0, 1), BAD);
        is.due("lost, no such item", x.lay(0, 0, 9, 1), NULL);
        is.due("another form, no such item", x.lay(1, 0, 9, 1), CAST);
        is.due("latest finding", x.count(8), 3);
        is.due("no item 2", x.lay(1, 2, 2, 1), INDEX);
        is.due("no item -1", x.lay(1, 2, -1, 1), INDEX);
        is.due("latest finding", x.count(8), 2);
    }

    private static void get() {
        promise(34, "Item i of it. BAD: the least int; so are NULL, CAST, INDEX (count() 8 tells).");
        PushedOver x = Built.withSheet(1, 5, 6);
        is.due("get(0, 1, 1)", x.get(0, 1, 1), 6);
        is.due("get(4, 1, 1)", x.get(4, 1, 1), LEAST);
        is.due("get(-1, 1, 1)", x.get(-1, 1, 1), LEAST);
        is.due("get(0, 3, 1)", x.get(0, 3, 1), LEAST);
        is.due("get(0, -1, 1)", x.get(0, -1, 1), LEAST);
        is.due("no finding by wrong numbers", x.count(8), 0);
        is.due("get(1, 1, 1)", x.get(1, 1, 1), LEAST);
        is.due("finding 1", x.count(8), 1);
        is.due("get(0, 2, 9)", x.get(0, 2, 9), LEAST);
        is.due("finding 3", x.count(8), 3);
        is.due("get(0, 1, 2)", x.get(0, 1, 2), LEAST);
        is.due("finding 2", x.count(8), 2);
        is.due("get(0, 0, 1)", x.get(0, 0, 1), LEAST);
        is.due("get(0, 1, -1)", x.get(0, 1, -1), LEAST);
        is.due("finding 2", x.count(8), 2);
    }

    private static void dueItems(String name, PushedOver x, int s, int form, int... due) {
        for (int i = 0; i < due.length; i++) {
            is.due(name + ", item " + i, x.get(s, form, i), due[i]);
        }
    }

    private static void copy() {
        promise(35, "n items of SHEET s, from i on, come to SHEET t (perhaps s, as they were), from j on: "
            + "1. BAD: the SHEETS; NULL: s, t; STORE; INDEX: below 0, not so many.");
        PushedOver x = Built.withSheet(0, 1, 2, 3, 4, 5);
        is.due("on, in itself", x.copy(0, 0, 0, 1, 4), 1);
        dueItems("on, in itself", x, 0, 0, 1, 1, 2, 3, 4);
        is.due("back, in itself", x.copy(0, 2, 0, 0, 3), 1);
        dueItems("back, in itself", x, 0, 0, 2, 3, 4, 3, 4);
        x.sheet(1, 0, 2);
        is.due("to another", x.copy(0, 1, 1, 0, 2), 1);
        dueItems("to another", x, 1, 0, 3, 4);
        is.due("none, at the ends", x.copy(0, 5, 1, 2, 0), 1);
        int[][] beyond = {{-1, 0, 1}, {0, -1, 1}, {0, 0, -1}, {4, 0, 2}, {0, 1, 2}, {6, 0, 0}, {0, 3, 0},
            {MOST, 0, 1}, {0, MOST, 1}, {1, 0, MOST}, {LEAST, 0, 1}, {0, 0, LEAST}, {MOST, MOST, MOST}};
        for (int[] b : beyond) {
            is.due("copy(0, " + b[0] + ", 1, " + b[1] + ", " + b[2] + ")", x.copy(0, b[0], 1, b[1], b[2]), INDEX);
        }
        is.due("finding 2", x.count(8), 2);
        x.sheet(2, 1, 5);
        is.due("unlike forms, no such items", x.copy(0, 9, 2, 9, 9), STORE);
        is.due("finding 4", x.count(8), 4);
        is.due("from a lost one", x.copy(3, 0, 2, 0, 1), NULL);
        is.due("to a lost one", x.copy(2, 0, 3, 0, 1), NULL);
        is.due("finding 1", x.count(8), 1);
        is.due("no such sheet, a lost one", x.copy(3, 0, 4, 0, 1), BAD);
        is.due("no such sheet, a lost one", x.copy(-1, 0, 3, 0, 1), BAD);
        dueItems("nothing has changed", x, 0, 0, 2, 3, 4, 3, 4);
        dueItems("nothing has changed", x, 1, 0, 3, 4);
    }

    private static void write() {
        promise(36, "What an engine gives in MINUTES 0 on comes to a SHEET from item 0 on, as many as there"
            + " are items, 40 at most: how many. BAD; NULL.");
        PushedOver x = Built.with("5", "9", 200, 7);
        Built.rule(x, 1, 2, 2);
        x.sheet(0, 1, 4);
        is.due("write(1, 0)", x.write(1, 0), 4);
        dueItems("the back, as shorts", x, 0, 1, 7, 7, 200, 200);
        x.sheet(1, 0, 3);
        is.due("write(1, 1)", x.write(1, 1), 3);
        dueItems("the back, as bytes", x, 1, 0, 7, 7, -56);
        x.sheet(2, 2, 60);
        x.lay(2, 2, 40, 1);
        is.due("forty at most", x.write(0, 2), 40);
        is.due("item 39", x.get(2, 2, 39), 200);
        is.due("item 40 stays", x.get(2, 2, 40), 1);
        x.sheet(2, 2, 0);
        is.due("no items", x.write(0, 2), 0);
        is.due("lost", x.write(0, 3), NULL);
        is.due("finding 1", x.count(8), 1);
        int[][] wrong = {{-1, 0}, {2, 0}, {2, 3}, {0, 4}, {0, -1}};
        for (int[] w : wrong) {
            is.due("write(" + w[0] + ", " + w[1] + ")", x.write(w[0], w[1]), BAD);
        }
    }

    private static void count() {
        promise(37, "0 WAGONS, 1 PLACES, 2, 3 bytes of texts, 4 TRAINS of the day, 5 WHOLE, 6 BENDS, 7 "
            + "SPEED in MINUTE 0, 8 the number of the latest FINDING (0 before any). BAD.");
        PushedOver x = Built.with("1239", "1b05b");
        x.train(9);
        x.train(8);
        x.set(4, 11);
        x.lose(0);
        int[] due = {4, 3, 4, 5, 2, 15, 2, 11, 1};
        for (int i = 0; i < due.length; i++) {
            is.due("count(" + i + ")", x.count(i), due[i]);
        }
        is.due("count(-1)", x.count(-1), BAD);
        is.due("count(9)", x.count(9), BAD);
    }

    private static void digest() {
        promise(38, "h is 17; h becomes 31 h and each of: count() 0 to 7; of texts fault(); of WAGONS "
            + "wagon(), strain(3, it, 0 and 1); of PLACES hill() 0, 1; of MINUTES 0, 1, 7, 39 gives()"
            + " 0, 1, minute() 0 to 2, slack() (as it is told); torn(), off() 0, 1, over(), "
            + "settles(), swings(), does(), above, below, start(0, 3), start(4, 1), safe() 0, 1, "
            + "order() 0, 1, squeeze(), above, below; of n 1 to 6 late() 0, 1; enough(9), whistles(5,"
            + " 7, 3), above, below, words(1); as longs that wrap.");
        is.due("digest() of a new object", new PushedOver().digest(), mixed(new PushedOver()));
        PushedOver x = Built.with("91519", "25b9b40", 50, 500);
        Built.rule(x, 0, 2, 2);
        Built.rule(x, 1, 3, 3);
        x.train(4);
        x.train(3);
        x.lose(0);
        long first = x.digest();
        is.due("digest()", first, mixed(x));
        is.due("digest() again", x.digest(), first);
        is.due("findings do not count", x.count(8), 1);
        x.sheet(0, 2, -1);
        is.due("digest() behind a finding", x.digest(), first);
        x.type(0, '0');
        is.due("digest() with a fault", x.digest(), mixed(x));
        is.holds("a fault is told", x.digest() != first);
        x.undo(0);
        is.due("digest() behind undo", x.digest(), first);
        digestsApart();
    }

    /** States in which a call with a number beside the one of the digest answers otherwise. */
    private static void digestsApart() {
        PushedOver x = Built.with("11", "9b", 100, 50);
        Built.rule(x, 0, 2, 2);
        Built.rule(x, 1, 2, 1);
        for (int tear : new int[] {119, 129, 139}) {
            x.set(0, tear);
            is.due("digest(), TEAR " + tear, x.digest(), mixed(x));
        }
        x.engine(1, 0, 0);
        for (int hold : new int[] {9, 14, 19}) {
            x.set(1, hold);
            is.due("digest(), HOLD " + hold, x.digest(), mixed(x));
        }
        x.train(0);
        for (int minute = 4; minute <= 7; minute++) {
            x.train(minute);
            is.due("digest(), a train in " + minute, x.digest(), mixed(x));
            x.back();
        }
        x.train(1);
        x.train(2);
        is.due("digest(), three trains", x.digest(), mixed(x));
        for (int lag = 3; lag <= 4; lag++) {
            Built.rule(x, 0, 2, lag);
            is.due("digest(), LAG " + lag, x.digest(), mixed(x));
        }
    }

    private static long mixed(PushedOver x) {
        long h = 17;
        for (int i = 0; i <= 7; i++) h = 31 * h + x.count(i);
        for (int i = 0; i < 2; i++) h = 31 * h + x.fault(i);
        for (int i = 0; i < x.count(0); i++) {
            h = 31 * h + x.wagon(i);
            for (int what = 0; what < 2; what++) h = 31 * h + x.strain(3, i, what);
        }
        for (int i = 0; i < x.count(1); i++) {
            for (int what = 0; what < 2; what++) h = 31 * h + x.hill(i, what);
        }
        for (int m : new int[] {0, 1, 7, 39}) {
            for (int e = 0; e < 2; e++) h = 31 * h + x.gives(m, e);
            for (int what = 0; what < 3; what++) h = 31 * h + x.minute(m, what);
            h = 31 * h + x.slack(m);
        }
        int[] more = {x.torn(), x.off(0), x.off(1), x.over(), x.settles(), x.swings(), x.does(0), x.does(1),
            x.start(0, 3), x.start(4, 1), x.safe(0), x.safe(1), x.order(0), x.order(1), x.squeeze(0), x.squeeze(1)};
        for (int v : more) h = 31 * h + v;
        for (int n = 1; n <= 6; n++) {
            for (int what = 0; what < 2; what++) h = 31 * h + x.late(n, what);
        }
        long[] last = {x.enough(9), x.whistles(5, 7, 3, 0), x.whistles(5, 7, 3, 1), x.words(1)};
        for (long v : last) h = 31 * h + v;
        return h;
    }
}
