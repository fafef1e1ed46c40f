/** Promises 20 to 23, start and order: each sentence that names a boundary, by itself. */
public final class StartsEdgeTest {
    private static final Checks is = new Checks("StartsEdgeTest");

    public static void main(String[] args) {
        seconds();
        frontAlone();
        backAlone();
        together();
        tornOrSqueezed();
        noWagons();
        safe();
        safeLeast();
        order();
        orderOfAllRows();
        orderOfLikeOnes();
        squeeze();
        is.end();
    }

    private static PushedOver held(PushedOver x, int tear, int hold) {
        x.set(0, tear);
        x.set(1, hold);
        return x;
    }

    private static void seconds() {
        is.sentence(20, "the front starts in SECOND a, the back in SECOND b (0 to 9 each)");
        PushedOver x = Built.with("1", "");
        for (int a = 0; a <= 9; a++) {
            for (int b = 0; b <= 9; b++) {
                is.due("start(" + a + ", " + b + ")", x.start(a, b), 0);
            }
        }
        for (int wrong : new int[] {-1, 10, Told.LEAST, Told.MOST}) {
            is.due("start(" + wrong + ", 0)", x.start(wrong, 0), Told.BAD);
            is.due("start(9, " + wrong + ")", x.start(9, wrong), Told.BAD);
            is.due("start(" + wrong + ", " + wrong + ")", x.start(wrong, wrong), Told.BAD);
        }
    }

    private static void frontAlone() {
        is.sentence(20, "who starts ahead of the other one gives alone, with a jerk: GIVES and 10 more for each SECOND ahead");
        for (int a = 0; a <= 9; a++) {
            for (int b = a + 1; b <= 9; b++) {
                int gives = 100 + 10 * (b - a);
                String call = "start(" + a + ", " + b + ") by TEAR " + gives;
                is.due(call, held(Built.with("1", ""), gives, 20).start(a, b), 0);
                is.due(call + " less 1", held(Built.with("1", ""), gives - 1, 20).start(a, b), 1);
            }
        }
        is.due("989 and 10", held(Built.with("1", "", 989, 0), 999, 20).start(0, 1), 0);
        is.due("990 and 10, more than 999", held(Built.with("1", "", 990, 0), 999, 20).start(0, 1), 1);
        is.due("nothing and 90", held(Built.with("1", "", 0, 0), 89, 20).start(0, 9), 1);
        is.sentence(20, "the other one nothing");
        is.due("the back", held(Built.with("11", "", 100, 999), 999, 1).start(0, 1), 0);
        is.due("the front", held(Built.with("11", "", 999, 0), 1, 99).start(1, 0), 0);
    }

    private static void backAlone() {
        is.sentence(20, "who starts ahead of the other one gives alone, with a jerk: GIVES and 10 more for each SECOND ahead");
        // The second of two like WAGONS bears 40 of what pushes.
        for (int b = 0; b <= 9; b++) {
            for (int a = b + 1; a <= 9; a++) {
                int least = Math.max(0, 40 - 10 * (a - b));
                int due = 10 * (a - b) > 40 ? 2 : 0;
                String call = "start(" + a + ", " + b + "), the back gives ";
                is.due(call + least, Built.with("11", "", 0, least).start(a, b), due);
                is.due(call + (least + 1), Built.with("11", "", 0, least + 1).start(a, b), 2);
            }
        }
        is.due("999 and 90: as much as the second one bears", held(Built.with("19", "", 0, 999), 300, 13).start(9, 0), 0);
        is.due("999 and 90: more than it bears", held(Built.with("19", "", 0, 999), 300, 12).start(9, 0), 2);
    }

    private static void together() {
        is.sentence(20, "who start together give GIVES each");
        for (int a = 0; a <= 9; a++) {
            String call = "start(" + a + ", " + a + ")";
            is.due(call + " by TEAR 100", held(Built.with("1", ""), 100, 20).start(a, a), 0);
            is.due(call + " by TEAR 99", held(Built.with("1", ""), 99, 20).start(a, a), 1);
            // 100 less the half of 100 and 140, or 141: squeezed by 20, or by more.
            is.due(call + ", 140 push", Built.with("11", "", 100, 140).start(a, a), 0);
            is.due(call + ", 141 push", Built.with("11", "", 100, 141).start(a, a), 2);
        }
        PushedOver ruled = Built.rule(Built.rule(Built.with("11", "9", 100, 141), 0, 1, 1), 1, 2, 5);
        is.due("by any RULE", ruled.start(0, 0), 2);
    }

    private static void tornOrSqueezed() {
        is.sentence(20, "1: some STRAIN is more than TEAR then; 2: else");
        PushedOver x = Built.with("11", "", 100, 999);
        x.set(0, 99);
        is.due("both", x.start(0, 0), 1);
        x.set(0, 100);
        is.due("squeezed alone", x.start(0, 0), 2);
        x.set(1, 99);
        x.engine(1, 0, 298);
        is.due("neither", x.start(0, 0), 0);
        is.sentence(20, "(BEND or none)");
        is.due("no PLACES", Built.with("11", "", 0, 41).start(0, 0), 2);
        is.due("no BEND", Built.with("11", "0", 0, 41).start(0, 0), 2);
        is.due("a BEND", Built.with("11", "0b", 0, 41).start(0, 0), 2);
        is.sentence(20, "some WAGON is squeezed then at both its COUPLINGS by more than HOLD times its WEIGHT each");
        is.due("a single one", Built.with("1", "", 0, 999).start(9, 0), 0);
        is.due("the last of twelve", Built.with("999999999991", "", 0, 21).start(0, 0), 2);
        is.due("20 push", Built.with("999999999991", "", 0, 20).start(0, 0), 0);
    }

    private static void noWagons() {
        is.sentence(20, "0: it is well");
        is.due("no WAGONS, the front", Built.with("", "", 999, 999).start(0, 9), 0);
        is.due("no WAGONS, the back", Built.with("", "", 999, 999).start(9, 0), 0);
        is.due("no WAGONS, together", Built.with("", "", 999, 999).start(9, 9), 0);
        is.due("a FAULT", Built.with("11x", "", 999, 999).start(0, 0), 0);
    }

    private static void dueSafe(String name, PushedOver x, int many, int least) {
        is.due(name + ": how many", x.safe(0), many);
        is.due(name + ": the least", x.safe(1), least);
    }

    private static void safe() {
        is.sentence(21, "SAFE: in how many of all 100 pairs it is well");
        dueSafe("all", Built.with("1", ""), 100, 0);
        dueSafe("no WAGONS", held(Built.with("", "", 999, 999), 1, 1), 100, 0);
        dueSafe("a FAULT", held(Built.with("1x", "", 999, 999), 1, 1), 100, 0);
        // 290 and 10 are as much as TEAR, 290 and 20 are more: 9 of the 45 pairs ahead of the back are well.
        dueSafe("one SECOND ahead", Built.with("1", "", 290, 0), 64, 0);
        dueSafe("eight SECONDS ahead", Built.with("1", "", 220, 0), 99, 0);
        dueSafe("nine SECONDS ahead", Built.with("1", "", 210, 0), 100, 0);
        is.sentence(21, "SAFE: in how many (what = 0), the least (1; NONE). BAD.");
        for (int wrong : new int[] {-1, 2, Told.LEAST, Told.MOST}) {
            is.due("safe(" + wrong + ")", Built.with("1", "").safe(wrong), Told.BAD);
        }
    }

    private static void safeLeast() {
        is.sentence(21, "the least such (10 a and b); NONE.");
        dueSafe("together alone", held(Built.with("11", ""), 100, 20), 10, 0);
        dueSafe("the front ahead alone", Built.with("11", "", 100, 999), 45, 1);
        dueSafe("the back ahead alone", Built.with("11", "", 301, 0), 30, 10);
        dueSafe("the back ahead, any time", Built.with("1", "", 301, 999), 45, 10);
        dueSafe("none", held(Built.with("11", ""), 99, 20), 0, Told.NONE);
    }

    private static void dueOrder(String train, int pull, int push, int... due) {
        PushedOver x = Built.with(train, "", pull, push);
        for (int i = 0; i < 6; i++) {
            is.due("order(" + i + ") of '" + train + "'", x.order(i), i < due.length ? due[i] : Told.NONE);
        }
    }

    private static void order() {
        is.sentence(22, "of all rows of WAGONS (of 6 at most; with more NONE)");
        dueOrder("", 100, 100);
        dueOrder("5", 0, 999, 0);
        dueOrder("21", 0, 60, 1, 0);
        dueOrder("111111", 0, 999, 0, 1, 2, 3, 4, 5);
        dueOrder("1111111", 0, 999);
        dueOrder("111111111111", 0, 999);
        dueOrder("12x", 0, 999);
        PushedOver x = Built.with("211111", "", 0, 999);
        is.due("six", x.order(5), 0);
        x.type(0, '1');
        is.due("a seventh", x.order(5), Told.NONE);
        x.undo(0);
        is.due("six again", x.order(5), 0);
        is.sentence(22, "ORDER: the i-th WAGON (0 to 5; NONE). BAD.");
        for (int wrong : new int[] {-1, 6, Told.LEAST, Told.MOST}) {
            is.due("order(" + wrong + ") of six", x.order(wrong), Told.BAD);
            is.due("order(" + wrong + ") of none", new PushedOver().order(wrong), Told.BAD);
            is.due("order(" + wrong + ") of twelve", Built.full().order(wrong), Told.BAD);
        }
    }

    private static void orderOfAllRows() {
        is.sentence(22, "that by which, as both give GIVES, the greatest SQUEEZE on any is least");
        // Sorted by hand or by a search of its own; no other row of the last one is as good as its last row of 720.
        dueOrder("12", 0, 100, 0, 1);
        dueOrder("321", 0, 100, 2, 1, 0);
        dueOrder("4321", 0, 100, 3, 2, 1, 0);
        dueOrder("91519", 100, 500, 1, 3, 2, 0, 4);
        dueOrder("654321", 0, 42, 4, 5, 2, 3, 1, 0);
        dueOrder("964321", 0, 500, 5, 4, 3, 2, 1, 0);
        is.sentence(23, "that SQUEEZE: a FRACTION");
        dueSqueeze("321", 0, 100, 50, 3);
        dueSqueeze("4321", 0, 100, 15, 1);
        dueSqueeze("91519", 100, 500, 284, 9);
        dueSqueeze("654321", 0, 42, 5, 1);
        dueSqueeze("964321", 0, 500, 320, 9);
    }

    private static void orderOfLikeOnes() {
        is.sentence(22, "of like ones the least row (of WAGONS by numbers)");
        dueOrder("321", 999, 0, 0, 1, 2);
        dueOrder("321", 0, 0, 0, 1, 2);
        dueOrder("987654", 0, 0, 0, 1, 2, 3, 4, 5);
        // The heavy one has to be the last; there are two rows in which it is.
        dueOrder("911", 0, 110, 1, 2, 0);
        is.sentence(22, "as both give GIVES");
        PushedOver x = Built.rule(Built.rule(Built.with("21", "9", 0, 60), 0, 2, 1), 1, 1, 1);
        is.due("by any RULE", x.order(0), 1);
        x.engine(1, 0, 0);
        is.due("anew when GIVES is another", x.order(0), 0);
        x.engine(1, 0, 1000);
        is.due("not behind a refused one", x.order(0), 0);
    }

    private static void dueSqueeze(String train, int pull, int push, int above, int below) {
        PushedOver x = Built.with(train, "", pull, push);
        String name = "'" + train + "' by " + pull + " and " + push;
        is.due(name + ", above", x.squeeze(0), above);
        is.due(name + ", below", x.squeeze(1), below);
    }

    private static void squeeze() {
        is.sentence(23, "SQUEEZE by ORDER: above, below (0 by 1: no WAGONS, more than 6). BAD.");
        dueSqueeze("", 0, 999, 0, 1);
        dueSqueeze("1x", 0, 999, 0, 1);
        dueSqueeze("1111111", 0, 999, 0, 1);
        dueSqueeze("111111111111", 0, 999, 0, 1);
        dueSqueeze("111111", 0, 999, 1665, 2);
        PushedOver x = Built.with("111111", "", 0, 999);
        is.due("six", x.squeeze(0) * 10 + x.squeeze(1), 16652);
        x.type(0, '1');
        is.due("then seven", x.squeeze(0) * 10 + x.squeeze(1), 1);
        x.undo(0);
        is.due("then six", x.squeeze(0) * 10 + x.squeeze(1), 16652);
        x.wipe(0);
        is.due("then none", x.squeeze(0) * 10 + x.squeeze(1), 1);
        for (int wrong : new int[] {-1, 2, Told.LEAST, Told.MOST}) {
            is.due("squeeze(" + wrong + ")", Built.with("11", "").squeeze(wrong), Told.BAD);
            is.due("squeeze(" + wrong + ") of none", new PushedOver().squeeze(wrong), Told.BAD);
        }
        is.sentence(23, "(by how much it is squeezed at the COUPLING ahead of it, by its WEIGHT; 0 at least)");
        dueSqueeze("9", 0, 999, 0, 1);
        dueSqueeze("11", 100, 100, 0, 1);
        dueSqueeze("11", 100, 101, 1, 2);
        dueSqueeze("11", 101, 100, 0, 1);
        dueSqueeze("11", 999, 0, 0, 1);
        dueSqueeze("11", 0, 0, 0, 1);
        dueSqueeze("99", 0, 999, 111, 2);
        dueSqueeze("19", 0, 999, 111, 10);
        dueSqueeze("91", 0, 999, 111, 10);
    }
}
