/** Promises 10 to 19, minutes: each sentence that names a boundary, by itself. */
public final class MinutesEdgeTest {
    private static final Checks is = new Checks("MinutesEdgeTest");
    private static final String NINES = "9".repeat(12), FLAT = "0".repeat(15);

    public static void main(String[] args) {
        givesByNoRule();
        leans();
        matches();
        goesHalf();
        lag();
        needed();
        speed();
        place();
        beyondTheLast();
        strain();
        fractions();
        slack();
        torn();
        off();
        offByBothCouplings();
        offAtBends();
        over();
        settles();
        swings();
        does();
        nothingGiven();
        is.end();
    }

    private static void dueRow(String name, PushedOver x, int engine, int... due) {
        for (int m = 0; m < due.length; m++) {
            is.due(name + ", minute " + m, x.gives(m, engine), due[m]);
        }
    }

    private static void givesByNoRule() {
        is.sentence(10, "In each the front engine PULLS, the back engine PUSHES (0 to 999 each).");
        PushedOver x = Built.with("5", "9", 0, 999);
        for (int m = 0; m < 40; m++) {
            is.due("gives(" + m + ", 0), the least", x.gives(m, 0), 0);
            is.due("gives(" + m + ", 1), the greatest", x.gives(m, 1), 999);
        }
        is.sentence(10, "MINUTES are 0 to 39.");
        for (int m : new int[] {-1, 40, Told.LEAST, Told.MOST}) {
            is.due("gives(" + m + ", 0)", x.gives(m, 0), Told.BAD);
        }
        for (int e : new int[] {-1, 2, Told.LEAST, Told.MOST}) {
            is.due("gives(0, " + e + ")", x.gives(0, e), Told.BAD);
        }
    }

    private static void leans() {
        is.sentence(10, "1 leans: what is NEEDED in that MINUTE less what the other one gave");
        for (int e = 0; e < 2; e++) {
            PushedOver x = Built.rule(Built.with("9", "9"), e, 1, 1);
            int[][] cases = {{0, 81}, {80, 1}, {81, 0}};
            for (int[] c : cases) {
                x.engine(1 - e, 0, c[0]);
                is.due("81 less " + c[0], x.gives(39, e), c[1]);
            }
        }
        is.sentence(10, "0 at least, 999 at most");
        PushedOver x = Built.rule(Built.with("9", "9"), 0, 1, 1);
        for (int more : new int[] {82, 999}) {
            x.engine(1, 0, more);
            is.due("81 less " + more, x.gives(1, 0), 0);
        }
        // No more than 9 times 108 can be NEEDED.
        is.due("the greatest", Built.rule(Built.with(NINES, "9", 0, 0), 1, 1, 1).gives(39, 1), 972);
        is.due("no WAGONS", Built.rule(Built.with("", "9", 50, 0), 0, 1, 1).gives(1, 0), 0);
        is.due("no PLACES", Built.rule(Built.with("9", "", 50, 0), 0, 1, 1).gives(1, 0), 0);
    }

    private static void matches() {
        is.sentence(10, "2 matches: what the other one gave LAG MINUTES ago");
        for (int v : new int[] {0, 1, 999}) {
            PushedOver x = Built.rule(Built.with("9", "9", 50, v), 0, 2, 5);
            dueRow("the front matches " + v, x, 0, 50, 50, 50, 50, 50, v, v);
            PushedOver y = Built.rule(Built.with("9", "9", v, 50), 1, 2, 5);
            dueRow("the back matches " + v, y, 1, 50, 50, 50, 50, 50, v, v);
            is.due("in the last MINUTE", y.gives(39, 1), v);
        }
    }

    private static void goesHalf() {
        is.sentence(10, "3 goes half: the half (cut) of what it gave in the MINUTE ahead and what it would by RULE 1");
        PushedOver x = Built.rule(Built.with("1", "1", 0, 0), 1, 3, 1);
        dueRow("the half of 0 and 1", x, 1, 0, 0, 0);
        x.engine(1, 0, 1);
        dueRow("the half of 1 and 1", x, 1, 1, 1, 1);
        x.engine(1, 0, 2);
        dueRow("the half of 2 and 1", x, 1, 2, 1, 1);
        x.engine(0, 0, 999);
        x.engine(1, 0, 999);
        dueRow("the half of 999 and 0, and so on", x, 1, 999, 499, 249, 124, 62, 31, 15, 7, 3, 1, 0, 0);
        PushedOver heavy = Built.rule(Built.with(NINES, "9", 999, 0), 0, 3, 1);
        dueRow("the half of 999 and 972", heavy, 0, 999, 985, 978, 975, 973, 972, 972);
        PushedOver late = Built.rule(Built.with("1", "1", 999, 5), 1, 3, 5);
        dueRow("the MINUTE ahead is no LAG ago", late, 1, 5, 5, 5, 5, 5, 2, 1, 0);
    }

    private static void lag() {
        is.sentence(10, "In MINUTES 0 to LAG less 1 it gives GIVES by any RULE.");
        int[] behind = {7, 0, 300, 3};
        for (int e = 0; e < 2; e++) {
            for (int rule = 0; rule <= 3; rule++) {
                for (int lag = 1; lag <= 5; lag++) {
                    PushedOver x = Built.rule(Built.with("9", "9", 300, 300), e, rule, lag);
                    x.engine(e, 0, 7);
                    String name = "engine " + e + ", RULE " + rule + ", LAG " + lag;
                    for (int m = 0; m < lag; m++) {
                        is.due(name + ", MINUTE " + m, x.gives(m, e), 7);
                    }
                    is.due(name + ", MINUTE " + lag, x.gives(lag, e), behind[rule]);
                }
            }
        }
    }

    private static void needed() {
        is.sentence(11, "NEEDED is how STEEP times WHOLE.");
        is.due("the greatest", Built.with(NINES, "9").minute(0, 0), 972);
        is.due("the least above 0", Built.with("1", "1").minute(0, 0), 1);
        is.due("STEEP 0", Built.with(NINES, "0").minute(39, 0), 0);
        is.due("no WAGONS", Built.with("", "9").minute(0, 0), 0);
        is.due("a FAULT of the train", Built.with("9x", "9").minute(0, 0), 0);
        is.sentence(11, "NEEDED (what = 0), SPEED (1), the PLACE (2; NONE: beyond the last, or there are none). BAD.");
        PushedOver x = Built.full();
        for (int wrong : new int[] {-1, 40, Told.LEAST, Told.MOST}) {
            is.due("minute(" + wrong + ", 0)", x.minute(wrong, 0), Told.BAD);
        }
        for (int wrong : new int[] {-1, 3, Told.LEAST, Told.MOST}) {
            is.due("minute(39, " + wrong + ")", x.minute(39, wrong), Told.BAD);
        }
    }

    private static void speed() {
        is.sentence(11, "one more, if PULL and PUSH together are more than NEEDED, one less, if less");
        int[][] cases = {{40, 40, 9}, {40, 41, 10}, {41, 40, 10}, {41, 41, 11}, {0, 0, 9}, {999, 999, 11}};
        for (int[] c : cases) {
            PushedOver x = Built.speed(Built.with("9", "9", c[0], c[1]), 10);
            is.due(c[0] + " and " + c[1] + " of 81, MINUTE 0", x.minute(0, 1), 10);
            is.due(c[0] + " and " + c[1] + " of 81, MINUTE 1", x.minute(1, 1), c[2]);
        }
        is.sentence(11, "(0 at least, 20 at most)");
        PushedOver slow = Built.speed(Built.with("9", "9", 0, 0), 1);
        int[] slower = {1, 0, 0, 0};
        PushedOver quick = Built.speed(Built.with("9", "9", 999, 0), 19);
        int[] quicker = {19, 20, 20, 20};
        for (int m = 0; m < 4; m++) {
            is.due("slower, MINUTE " + m, slow.minute(m, 1), slower[m]);
            is.due("quicker, MINUTE " + m, quick.minute(m, 1), quicker[m]);
        }
        is.due("slower, MINUTE 39", slow.minute(39, 1), 0);
        is.due("quicker, MINUTE 39", quick.minute(39, 1), 20);
        is.due("0 stays 0", Built.speed(slow, 0).minute(1, 1), 0);
        is.due("20 stays 20", Built.speed(quick, 20).minute(1, 1), 20);
        is.due("0 and more", Built.speed(quick, 0).minute(1, 1), 1);
        is.due("20 and less", Built.speed(slow, 20).minute(1, 1), 19);
    }

    private static void place() {
        is.sentence(11, "In a MINUTE the train goes on by SPEED tenths of a PLACE");
        for (int speed = 0; speed <= 20; speed++) {
            PushedOver x = Built.speed(Built.with("1", "0".repeat(16), 0, 0), speed);
            for (int m = 0; m < 40; m++) {
                int due = m * speed < 160 ? m * speed / 10 : Told.NONE;
                is.due("SPEED " + speed + ", minute(" + m + ", 2)", x.minute(m, 2), due);
            }
        }
        is.sentence(11, "in MINUTE 0 it is at the beginning of PLACE 0");
        is.due("SPEED 20", Built.speed(Built.with("1", "0", 0, 0), 20).minute(0, 2), 0);
        is.sentence(11, "it is one more");
        // Tenths 5, 6, 7 and so on: 0, 5, 11, 18, 26 are gone.
        PushedOver x = Built.with("1", "00000", 1, 0);
        int[] due = {0, 0, 1, 1, 2};
        for (int m = 0; m < due.length; m++) {
            is.due("minute(" + m + ", 2)", x.minute(m, 2), due[m]);
        }
    }

    private static void beyondTheLast() {
        is.sentence(11, "beyond the last one it is as STEEP as there");
        PushedOver x = Built.speed(Built.with("1", "409", 0, 4), 10);
        int[] steep = {4, 0, 9, 9}, place = {0, 1, 2, Told.NONE};
        for (int m = 0; m < steep.length; m++) {
            is.due("minute(" + m + ", 0)", x.minute(m, 0), steep[m]);
            is.due("minute(" + m + ", 2)", x.minute(m, 2), place[m]);
        }
        is.due("minute(39, 0)", Built.speed(Built.with("1", "08", 0, 999), 20).minute(39, 0), 8);
        is.sentence(11, "(no PLACES: 0, none)");
        for (PushedOver none : new PushedOver[] {Built.with("99", ""), Built.with("99", "9b9bb")}) {
            for (int m = 0; m < 40; m += 39) {
                is.due("minute(" + m + ", 0)", none.minute(m, 0), 0);
                is.due("minute(" + m + ", 2)", none.minute(m, 2), Told.NONE);
            }
            is.due("it goes on all the same", none.minute(1, 1), 6);
        }
    }

    private static void strain() {
        is.sentence(12, "COUPLING k (0 to as many as there are WAGONS)");
        for (int wagons : new int[] {1, 6, 12}) {
            PushedOver x = Built.with("1".repeat(wagons), "", 999, 999);
            is.due("ahead of all", x.strain(0, 0, 0), 999);
            is.due("behind all", x.strain(39, wagons, 0), -999);
            for (int k : new int[] {-1, wagons + 1, Told.LEAST, Told.MOST}) {
                is.due("COUPLING " + k + " of " + wagons + " WAGONS", x.strain(0, k, 0), Told.LONG_BAD);
            }
        }
        is.sentence(12, "STRAIN: above, below. BAD; NOT. (As the least long.)");
        PushedOver x = Built.with("12", "");
        for (int wrong : new int[] {-1, 40, Told.LEAST, Told.MOST}) {
            is.due("strain(" + wrong + ", 0, 0)", x.strain(wrong, 0, 0), Told.LONG_BAD);
        }
        for (int wrong : new int[] {-1, 2, Told.LEAST, Told.MOST}) {
            is.due("strain(0, 0, " + wrong + ")", x.strain(0, 0, wrong), Told.LONG_BAD);
        }
        is.sentence(12, "NOT: there are no WAGONS.");
        is.due("none", new PushedOver().strain(0, 0, 0), Told.LONG_NOT);
        is.due("none, MINUTE 39, below", new PushedOver().strain(39, 0, 1), Told.LONG_NOT);
        is.due("a FAULT", Built.with("12x", "").strain(0, 0, 0), Told.LONG_NOT);
        is.due("wiped", wiped().strain(0, 0, 0), Told.LONG_NOT);
        is.due("there was a COUPLING 1", wiped().strain(0, 1, 0), Told.LONG_BAD);
    }

    private static PushedOver wiped() {
        PushedOver x = Built.with("12", "");
        x.wipe(0);
        return x;
    }

    private static void dueStrain(PushedOver x, int k, long above, long below) {
        is.due("strain(0, " + k + ", 0)", x.strain(0, k, 0), above);
        is.due("strain(0, " + k + ", 1)", x.strain(0, k, 1), below);
    }

    private static void fractions() {
        is.sentence(12, "FRACTIONS are told in lowest terms, above (perhaps below 0) and below (above 0; 0 by 1).");
        // 1 less 2 k by 12.
        PushedOver x = Built.with("1".repeat(12), "", 1, 1);
        int[][] due = {{1, 1}, {5, 6}, {2, 3}, {1, 2}, {1, 3}, {1, 6}, {0, 1}, {-1, 6}, {-1, 3}, {-1, 2}, {-2, 3},
            {-5, 6}, {-1, 1}};
        for (int k = 0; k < due.length; k++) {
            dueStrain(x, k, due[k][0], due[k][1]);
        }
        x.engine(0, 0, 0);
        x.engine(1, 0, 0);
        for (int k = 0; k <= 12; k++) {
            dueStrain(x, k, 0, 1);
        }
        // WHOLE is 107, a prime: nothing can be taken out.
        PushedOver most = Built.with("999999999998", "", 999, 0);
        dueStrain(most, 11, 999 * 8, 107);
        most.engine(0, 0, 0);
        most.engine(1, 0, 999);
        dueStrain(most, 11, -999 * 99, 107);
        dueStrain(most, 0, 0, 1);
        dueStrain(most, 12, -999, 1);
    }

    private static void slack() {
        is.sentence(13, "SLACK in a MINUTE: the first COUPLING with a STRAIN of 0 or less");
        int[][] cases = {{0, 0, 0}, {0, 999, 0}, {1, 999, 1}, {1, 1, 1}, {2, 1, 2}, {100, 0, 2}, {999, 999, 1}};
        for (int[] c : cases) {
            PushedOver x = Built.with("11", "", c[0], c[1]);
            is.due(c[0] + " and " + c[1] + ", slack(0)", x.slack(0), c[2]);
            is.due(c[0] + " and " + c[1] + ", slack(39)", x.slack(39), c[2]);
        }
        is.due("behind all of twelve", Built.with(NINES, "", 999, 0).slack(39), 12);
        is.due("of a single one", Built.with("1", "", 1, 999).slack(0), 1);
        is.sentence(13, "NONE: none has");
        // Behind all WAGONS the STRAIN is what the back gives, turned: 0 or less, so that one has always.
        for (int pull = 0; pull <= 999; pull += 333) {
            for (int push = 0; push <= 999; push += 333) {
                is.holds(pull + " and " + push, Built.with("915", "", pull, push).slack(0) != Told.NONE);
            }
        }
        is.sentence(13, "SLACK; NONE. BAD; NOT.");
        for (int wrong : new int[] {-1, 40, Told.LEAST, Told.MOST}) {
            is.due("slack(" + wrong + ")", Built.with("1", "").slack(wrong), Told.BAD);
        }
        is.sentence(13, "NOT: there are no WAGONS.");
        is.due("none", new PushedOver().slack(0), Told.NOT);
        is.due("none, MINUTE 39", new PushedOver().slack(39), Told.NOT);
        is.due("a FAULT", Built.with("1x", "").slack(0), Told.NOT);
    }

    private static void torn() {
        is.sentence(14, "some STRAIN is more than TEAR (1 to 999; 300 at first)");
        int[][] cases = {{300, 300, Told.NONE}, {301, 300, 0}, {1, 1, Told.NONE}, {2, 1, 0}, {999, 999, Told.NONE},
            {999, 998, 0}, {0, 1, Told.NONE}};
        for (int[] c : cases) {
            PushedOver x = Built.with("19", "", c[0], 999);
            x.set(0, c[1]);
            is.due(c[0] + " by TEAR " + c[1], x.torn(), c[2]);
        }
        is.due("at first, 300", Built.with("1", "", 300, 0).torn(), Told.NONE);
        is.due("at first, 301", Built.with("1", "", 301, 0).torn(), 0);
        is.due("squeezed is not torn", Built.with("11", "", 0, 999).torn(), Told.NONE);
        is.sentence(14, "TORN: the first MINUTE");
        PushedOver late = Built.lateAtLastPlace(0, NINES, FLAT + "9");
        late.set(0, 971);
        is.due("in the last MINUTE", late.torn(), 39);
        late.set(0, 972);
        is.due("not in the last MINUTE either", late.torn(), Told.NONE);
        is.sentence(14, "TORN; NONE.");
        is.due("no WAGONS", Built.with("", "", 999, 999).torn(), Told.NONE);
        is.due("a FAULT", Built.with("9x", "", 999, 999).torn(), Told.NONE);
    }

    private static void off() {
        is.sentence(15, "squeezed (STRAIN below 0) at the COUPLINGS ahead of it and behind it by more than HOLD "
            + "(1 to 99; 20 at first) times its WEIGHT each");
        // WAGON 1 of two like ones is squeezed by the half of what pushes.
        int[][] cases = {{1, 2, Told.NONE}, {1, 3, 0}, {20, 40, Told.NONE}, {20, 41, 0}, {99, 198, Told.NONE},
            {99, 199, 0}};
        for (int[] c : cases) {
            PushedOver x = Built.with("11", "0b", 0, c[1]);
            x.set(1, c[0]);
            is.due("HOLD " + c[0] + ", pushed by " + c[1], x.off(0), c[2]);
            is.due("HOLD " + c[0] + ", pushed by " + c[1] + ": WAGON", x.off(1), c[2] == 0 ? 1 : Told.NONE);
        }
        is.due("HOLD at first, 40", Built.with("11", "0b", 0, 40).off(0), Told.NONE);
        is.due("HOLD at first, 41", Built.with("11", "0b", 0, 41).off(0), 0);
        is.due("WEIGHT 9, 360", Built.with("99", "0b", 0, 360).off(1), Told.NONE);
        is.due("WEIGHT 9, 361", Built.with("99", "0b", 0, 361).off(1), 1);
        is.sentence(15, "OFF: the MINUTE (what = 0), the WAGON (1); NONE. BAD.");
        for (int wrong : new int[] {-1, 2, Told.LEAST, Told.MOST}) {
            is.due("off(" + wrong + ")", Built.with("11", "0b", 0, 999).off(wrong), Told.BAD);
        }
        is.due("no WAGONS", Built.with("", "0b", 0, 999).off(0), Told.NONE);
        is.due("no WAGONS: WAGON", Built.with("", "0b", 0, 999).off(1), Told.NONE);
        is.due("no PLACES", Built.with("11", "", 0, 999).off(0), Told.NONE);
    }

    private static void offByBothCouplings() {
        is.sentence(15, "at the COUPLINGS ahead of it and behind it");
        is.due("a single one is never squeezed ahead", Built.with("1", "0b", 0, 999).off(0), Told.NONE);
        PushedOver pulled = Built.with("11", "0b", 100, 100);
        is.due("behind it alone", pulled.off(0), Told.NONE);
        pulled.engine(1, 0, 140);
        is.due("20 ahead of it", pulled.off(0), Told.NONE);
        pulled.engine(1, 0, 141);
        is.due("more ahead of it", pulled.off(1), 1);
        is.sentence(15, "the first WAGON");
        is.due("of three", Built.with("1111", "0b", 0, 999).off(1), 1);
        // Squeezed by 10, 100, 110 ahead of 9, 1, 9: the second one alone by more than 20 times its WEIGHT.
        is.due("not the heavy one ahead of it", Built.with("1919", "0b", 0, 200).off(1), 2);
    }

    private static void offAtBends() {
        is.sentence(15, "the first MINUTE in which the train is in a PLACE with a BEND");
        is.due("no BEND", Built.with("11", "000", 0, 999).off(0), Told.NONE);
        is.due("a BEND in PLACE 1", Built.with("11", "00b", 0, 999).off(0), 2);
        PushedOver late = Built.lateAtLastPlace(1, NINES, FLAT + "9b");
        is.due("in the last MINUTE", late.off(0), 39);
        is.due("in the last MINUTE: WAGON", late.off(1), 3);
        late.set(1, 98);
        is.due("HOLD 98: the last WAGON", late.off(1), 11);
        late.set(1, 99);
        is.due("HOLD 99: as much as it bears", late.off(0), Told.NONE);
        is.sentence(15, "beyond the last one it is as STEEP as there, without a BEND");
        // Pulled in MINUTE 0, pushed in MINUTE 1, where 9 or 10 tenths are gone.
        PushedOver x = Built.rule(Built.rule(Built.with("11", "0b", 999, 0), 0, 2, 1), 1, 2, 1);
        is.due("9 tenths", Built.speed(x, 9).off(0), 1);
        is.due("10 tenths", Built.speed(x, 10).off(0), Told.NONE);
    }

    private static void over() {
        is.sentence(16, "OVER: the first MINUTE in which the train is beyond the last PLACE; NONE (also without PLACES).");
        int[][] bySpeed = {{0, Told.NONE}, {1, 10}, {9, 2}, {10, 1}, {20, 1}};
        for (int[] s : bySpeed) {
            is.due("SPEED " + s[0], Built.speed(Built.with("1", "0", 0, 0), s[0]).over(), s[1]);
        }
        is.due("sixteen PLACES, SPEED 20", Built.speed(Built.with("", "0".repeat(16), 0, 0), 20).over(), 8);
        is.due("in the last MINUTE", Built.lateAtLastPlace(0, "1", FLAT).over(), 39);
        is.due("not in the last MINUTE either", Built.lateAtLastPlace(0, "1", FLAT + "0").over(), Told.NONE);
        is.due("without PLACES", Built.with("1", "", 999, 999).over(), Told.NONE);
        is.due("with a FAULT", Built.with("1", "00x", 999, 999).over(), Told.NONE);
        is.due("it stands on the hill", Built.with("9", "000099", 0, 0).over(), Told.NONE);
    }

    private static void settles() {
        is.sentence(17, "SETTLES: the first MINUTE (38 at most) from which on, to MINUTE 39, both give what they give in it");
        is.due("from the beginning", new PushedOver().settles(), 0);
        is.due("MINUTE 1", Built.rule(Built.with("1", "", 5, 6), 0, 2, 1).settles(), 1);
        PushedOver last = Built.leaning(0, "1", FLAT + "1", 4);
        is.due("MINUTE 38, by the front", last.settles(), 38);
        is.due("MINUTE 38, by the back", Built.leaning(1, "1", FLAT + "1", 4).settles(), 38);
        is.due("the back one more MINUTE", Built.rule(last, 1, 2, 1).settles(), Told.NONE);
        is.due("MINUTE 39 alone is none, by the front", Built.lateAtLastPlace(0, "1", FLAT + "1").settles(), Told.NONE);
        is.due("MINUTE 39 alone is none, by the back", Built.lateAtLastPlace(1, "1", FLAT + "1").settles(), Told.NONE);
        is.sentence(17, "SETTLES; NONE.");
        PushedOver swings = Built.rule(Built.rule(Built.with("1", "", 5, 6), 0, 2, 1), 1, 2, 1);
        is.due("to and fro", swings.settles(), Told.NONE);
        swings.engine(0, 0, 6);
        is.due("to and fro alike", swings.settles(), 0);
    }

    private static void swings() {
        is.sentence(18, "SWINGS: the least number of MINUTES (1 to 12) behind which both give the same again");
        is.due("always the same", new PushedOver().swings(), 1);
        for (int a = 1; a <= 5; a++) {
            for (int b = 1; b <= 5; b++) {
                PushedOver x = Built.rule(Built.rule(Built.with("1", "", 5, 6), 0, 2, a), 1, 2, b);
                is.due("both match, " + a + " and " + b + " ago", x.swings(), a == b ? 2 * a : a + b);
            }
        }
        PushedOver turned = Built.rule(Built.rule(Built.with("9", "9", 0, 50), 0, 1, 3), 1, 2, 3);
        is.due("the greatest", turned.swings(), 12);
        // By PLACES at 4 tenths a MINUTE, from MINUTE 20 on: 1 for five MINUTES, 2 for three, 3 for five, and again.
        PushedOver longer = Built.leaning(0, "1", "0000000011233112", 4);
        is.due("13 are too many", longer.swings(), Told.NONE);
        is.due("it is as told", longer.gives(20, 0) * 100 + longer.gives(25, 0) * 10 + longer.gives(28, 0), 123);
        is.due("it comes again", longer.gives(33, 0) * 100 + longer.gives(37, 0) * 10 + longer.gives(38, 0), 112);
        is.sentence(18, "in all MINUTES from 20 on for which there are such; NONE.");
        is.due("the same from MINUTE 20 on", Built.leaning(0, "1", "001", 1).swings(), 1);
        PushedOver half = Built.rule(Built.leaning(0, "3", "001", 1), 0, 3, 1);
        is.due("the same from MINUTE 21 on", half.settles() * 100 + half.swings(), 2100 + Told.NONE);
        is.due("MINUTE 39 alone is another, by the front", Built.lateAtLastPlace(0, "1", FLAT + "1").swings(), Told.NONE);
        is.due("MINUTE 39 alone is another, by the back", Built.lateAtLastPlace(1, "1", FLAT + "1").swings(), Told.NONE);
    }

    private static void does() {
        is.sentence(19, "the share of the front: a FRACTION (0 by 1, where they give nothing)");
        int[][] cases = {{0, 0, 0, 1}, {0, 999, 0, 1}, {1, 0, 1, 1}, {999, 0, 1, 1}, {999, 999, 1, 2}, {1, 999, 1, 1000},
            {999, 1, 999, 1000}, {300, 600, 1, 3}};
        for (int[] c : cases) {
            PushedOver x = Built.with("", "", c[0], c[1]);
            is.due(c[0] + " and " + c[1] + ", above", x.does(0), c[2]);
            is.due(c[0] + " and " + c[1] + ", below", x.does(1), c[3]);
        }
        is.sentence(19, "of all that both give in all MINUTES");
        PushedOver first = Built.rule(Built.with("1", "", 39, 1), 0, 1, 1);
        is.due("39 in MINUTE 0 alone, above", first.does(0), 39);
        is.due("39 in MINUTE 0 alone, below", first.does(1), 79);
        PushedOver last = Built.lateAtLastPlace(1, "9", FLAT + "1");
        // The back gives 1, 1 and, in MINUTE 39, 9; the front nothing, then 9 in MINUTE 39 too.
        is.due("MINUTE 39 counts, above", Built.rule(last, 0, 1, 5).does(0), 9);
        is.due("MINUTE 39 counts, below", last.does(1), 20);
        is.sentence(19, "DOES: above, below. BAD.");
        for (int wrong : new int[] {-1, 2, Told.LEAST, Told.MOST}) {
            is.due("does(" + wrong + ")", last.does(wrong), Told.BAD);
        }
    }

    /** Both give nothing in all MINUTES: by GIVES 0, or by leaning where nothing is NEEDED. */
    private static void nothingGiven() {
        PushedOver[] made = {Built.with("915", "0b0b0b", 0, 0),
            Built.rule(Built.rule(Built.with("915", "0b0b0b", 0, 0), 0, 1, 3), 1, 3, 5)};
        for (PushedOver x : made) {
            is.sentence(10, "In each the front engine PULLS, the back engine PUSHES (0 to 999 each).");
            is.due("gives(39, 0)", x.gives(39, 0), 0);
            is.due("gives(39, 1)", x.gives(39, 1), 0);
            is.sentence(12, "0 by 1");
            dueStrain(x, 0, 0, 1);
            dueStrain(x, 2, 0, 1);
            is.sentence(13, "a STRAIN of 0 or less");
            is.due("slack(39)", x.slack(39), 0);
            is.sentence(14, "TORN; NONE.");
            is.due("torn()", x.torn(), Told.NONE);
            is.sentence(15, "OFF: the MINUTE (what = 0), the WAGON (1); NONE.");
            is.due("off(0)", x.off(0), Told.NONE);
            is.sentence(17, "SETTLES: the first MINUTE (38 at most) from which on, to MINUTE 39, both give what they give in it");
            is.due("settles()", x.settles(), 0);
            is.sentence(18, "SWINGS: the least number of MINUTES (1 to 12)");
            is.due("swings()", x.swings(), 1);
            is.sentence(19, "(0 by 1, where they give nothing)");
            is.due("does(0)", x.does(0), 0);
            is.due("does(1)", x.does(1), 1);
        }
    }
}
