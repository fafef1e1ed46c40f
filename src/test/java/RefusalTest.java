import java.util.List;
import java.util.function.Supplier;

/**
 * "Refusals, the first that fits, in the order told at each act": each refusal alone and ahead of the
 * others, as an int and as a long, and that nothing but count() 8 has changed behind it.
 */
public final class RefusalTest {
    private static final String FIRST = "Refusals, the first that fits, in the order told at each act";
    private static final int BEYOND = 99;
    private static final int[] FINDINGS = {Told.NULL, Told.INDEX, Told.CAST, Told.STORE, Told.SIZE};
    private static final Checks is = new Checks("RefusalTest");

    /** A call on an object. */
    private interface Act {
        long on(PushedOver x);
    }

    public static void main(String[] args) {
        texts();
        asLongs();
        minutes();
        day();
        read();
        sheet();
        lose();
        layAndGet();
        copy();
        write();
        latestFinding();
        is.end();
    }

    /** The call is refused as told, and the object is as one on which it was not made. */
    private static void refused(String call, Supplier<PushedOver> made, Act act, long due) {
        PushedOver x = made.get();
        PushedOver untouched = made.get();
        is.due(call, act.on(x), due);
        is.due(call + ", then count(8)", x.count(8), findingBehind(due, untouched.count(8)));
        List<Long> seen = Seen.of(x);
        is.holds(call + " changes nothing", seen.equals(Seen.of(untouched)));
    }

    private static int findingBehind(long answer, int before) {
        for (int finding : FINDINGS) {
            if (answer == finding) {
                return -10 - finding;
            }
        }
        return before;
    }

    /** As refused, for get(), whose answer does not tell the finding: it is told here. */
    private static void refusedGet(String call, Act act, int finding) {
        PushedOver x = Built.full();
        PushedOver untouched = Built.full();
        is.due(call, act.on(x), Told.LEAST);
        is.due(call + ", then count(8)", x.count(8), findingBehind(finding, untouched.count(8)));
        is.holds(call + " changes nothing", Seen.of(x).equals(Seen.of(untouched)));
    }

    private static void texts() {
        is.sentence(2, FIRST, "BAD; FULL");
        refused("type(2, 49), both full", Built::full, x -> x.type(2, 49), Told.BAD);
        refused("type(0, 256), full", Built::full, x -> x.type(0, 256), Told.BAD);
        refused("type(1, -1), full", Built::full, x -> x.type(1, -1), Told.BAD);
        refused("type(0, 49), full", Built::full, x -> x.type(0, 49), Told.FULL);
        refused("type(1, 49), full", Built::full, x -> x.type(1, 49), Told.FULL);
        is.sentence(3, FIRST, "BAD");
        refused("wipe(2)", Built::full, x -> x.wipe(2), Told.BAD);
        refused("wipe(-1), with faults", Built::faulty, x -> x.wipe(-1), Told.BAD);
        is.sentence(4, FIRST, "BAD; NOT");
        refused("undo(2), both empty", PushedOver::new, x -> x.undo(2), Told.BAD);
        refused("undo(0), empty", PushedOver::new, x -> x.undo(0), Told.NOT);
        refused("undo(1), empty", PushedOver::new, x -> x.undo(1), Told.NOT);
        is.sentence(8, FIRST, "BAD");
        refused("engine(2, 3, -1)", Built::full, x -> x.engine(2, 3, -1), Told.BAD);
        refused("engine(0, 2, 6)", Built::full, x -> x.engine(0, 2, 6), Told.BAD);
        refused("engine(1, 0, 1000)", Built::full, x -> x.engine(1, 0, 1000), Told.BAD);
        is.sentence(9, FIRST, "BAD");
        refused("set(5, 1)", Built::full, x -> x.set(5, 1), Told.BAD);
        refused("set(4, 21)", Built::full, x -> x.set(4, 21), Told.BAD);
        refused("set(0, 0)", Built::full, x -> x.set(0, 0), Told.BAD);
    }

    private static void asLongs() {
        String told = "Where the answer is a long, a refusal -x is the least long and x more.";
        is.sentence(12, told);
        refused("strain(40, 0, 0)", Built::full, x -> x.strain(40, 0, 0), -9223372036854775806L);
        refused("strain(0, 0, 0), no wagons", PushedOver::new, x -> x.strain(0, 0, 0), -9223372036854775805L);
        is.sentence(29, told);
        refused("whistles(10, 0, 0, 0)", Built::full, x -> x.whistles(10, 0, 0, 0), -9223372036854775806L);
        is.sentence(12, FIRST, "BAD; NOT");
        refused("strain(40, 0, 0), no wagons", PushedOver::new, x -> x.strain(40, 0, 0), Told.LONG_BAD);
        refused("strain(0, 1, 0), no wagons", PushedOver::new, x -> x.strain(0, 1, 0), Told.LONG_BAD);
        refused("strain(0, 0, 2), no wagons", PushedOver::new, x -> x.strain(0, 0, 2), Told.LONG_BAD);
        refused("strain(39, 0, 1), a fault", Built::faulty, x -> x.strain(39, 0, 1), Told.LONG_NOT);
    }

    private static void minutes() {
        is.sentence(13, FIRST, "BAD; NOT");
        refused("slack(40), no wagons", PushedOver::new, x -> x.slack(40), Told.BAD);
        refused("slack(-1), a fault", Built::faulty, x -> x.slack(-1), Told.BAD);
        refused("slack(39), no wagons", PushedOver::new, x -> x.slack(39), Told.NOT);
        refused("slack(0), a fault", Built::faulty, x -> x.slack(0), Told.NOT);
        is.sentence(15, FIRST, "BAD");
        refused("off(2), where NONE is", PushedOver::new, x -> x.off(2), Told.BAD);
        is.sentence(21, FIRST, "BAD");
        refused("safe(2), where NONE is", () -> Built.with("1", "", 999, 999), x -> x.safe(2), Told.BAD);
        is.sentence(22, FIRST, "BAD");
        refused("order(6), where NONE is", Built::full, x -> x.order(6), Told.BAD);
        refused("order(-1), no wagons", PushedOver::new, x -> x.order(-1), Told.BAD);
        is.sentence(28, FIRST, "BAD");
        refused("enough(-1), where NONE is", Built::full, x -> x.enough(-1), Told.BAD);
    }

    private static void day() {
        is.sentence(24, FIRST, "BAD; FULL");
        refused("train(1000), full", Built::full, x -> x.train(1000), Told.BAD);
        refused("train(-1), full", Built::full, x -> x.train(-1), Told.BAD);
        refused("train(0), full", Built::full, x -> x.train(0), Told.FULL);
        refused("train(999), full", Built::full, x -> x.train(999), Told.FULL);
        is.sentence(25, "NOT: there is none.");
        refused("back(), none", PushedOver::new, x -> x.back(), Told.NOT);
    }

    private static void read() {
        is.sentence(26, FIRST, "BAD; NULL");
        refused("read(4), all lost", PushedOver::new, x -> x.read(4), Told.BAD);
        refused("read(-1), all lost", PushedOver::new, x -> x.read(-1), Told.BAD);
        refused("read(3), lost", Built::full, x -> x.read(3), Told.NULL);
        refused("read(1), lost", Built::faulty, x -> x.read(1), Told.NULL);
    }

    private static void sheet() {
        is.sentence(31, FIRST, "BAD: SHEET, FORM, above 60; SIZE.");
        for (int n : new int[] {-1, Told.LEAST, 0, 61, Told.MOST}) {
            refused("sheet(4, 0, " + n + ")", Built::full, x -> x.sheet(4, 0, n), Told.BAD);
            refused("sheet(0, 3, " + n + ")", Built::full, x -> x.sheet(0, 3, n), Told.BAD);
            refused("sheet(3, -1, " + n + ")", Built::full, x -> x.sheet(3, -1, n), Told.BAD);
        }
        for (int s : new int[] {1, 3}) {
            refused("sheet(" + s + ", 0, 61)", Built::full, x -> x.sheet(s, 0, 61), Told.BAD);
            refused("sheet(" + s + ", 0, most)", Built::full, x -> x.sheet(s, 0, Told.MOST), Told.BAD);
            refused("sheet(" + s + ", 0, -1)", Built::full, x -> x.sheet(s, 0, -1), Told.SIZE);
            refused("sheet(" + s + ", 0, least)", Built::full, x -> x.sheet(s, 0, Told.LEAST), Told.SIZE);
        }
    }

    private static void lose() {
        is.sentence(32, FIRST, "BAD; NULL");
        refused("lose(4), all lost", PushedOver::new, x -> x.lose(4), Told.BAD);
        refused("lose(-1), all lost", PushedOver::new, x -> x.lose(-1), Told.BAD);
        for (int s = 0; s < 4; s++) {
            int lost = s;
            refused("lose(" + s + "), all lost", PushedOver::new, x -> x.lose(lost), Told.NULL);
        }
    }

    /** Of a full object: 0 to 2 are rows of the forms 0 to 2, of 60, 3 and 40 items, and 3 is lost. */
    private static int dueOfItem(int s, int form, int i) {
        if (s < 0 || s > 3 || form < 0 || form > 2) return Told.BAD;
        if (s == 3) return Told.NULL;
        if (s != form) return Told.CAST;
        int[] items = {60, 3, 40};
        return i < 0 || i >= items[s] ? Told.INDEX : 0;
    }

    private static void layAndGet() {
        int[] some = {Told.LEAST, -1, 0, 1, 2, 3, 4, Told.MOST};
        for (int s : some) {
            for (int form : some) {
                for (int i : new int[] {Told.LEAST, -1, 60, Told.MOST}) {
                    int due = dueOfItem(s, form, i);
                    String numbers = "(" + s + ", " + form + ", " + i;
                    is.sentence(33, FIRST, "BAD; NULL; CAST; INDEX");
                    refused("lay" + numbers + ", 7)", Built::full, x -> x.lay(s, form, i, 7), due);
                    is.sentence(34, "BAD: the least int; so are NULL, CAST, INDEX (count() 8 tells).");
                    refusedGet("get" + numbers + ")", x -> x.get(s, form, i), due);
                }
            }
        }
    }

    private static int dueOfCopy(int s, int t, boolean fits) {
        if (s < 0 || s > 3 || t < 0 || t > 3) return Told.BAD;
        if (s == 3 || t == 3) return Told.NULL;
        if (s != t) return Told.STORE;
        return fits ? 1 : Told.INDEX;
    }

    private static void copy() {
        is.sentence(35, FIRST, "BAD: the SHEETS; NULL: s, t; STORE; INDEX: below 0, not so many.");
        int[][] unfit = {{-1, 0, 0}, {0, -1, 0}, {0, 0, -1}, {BEYOND, BEYOND, BEYOND}};
        int[] some = {Told.LEAST, -1, 0, 1, 2, 3, 4, Told.MOST};
        for (int s : some) {
            for (int t : some) {
                for (int[] u : unfit) {
                    String call = "copy(" + s + ", " + u[0] + ", " + t + ", " + u[1] + ", " + u[2] + ")";
                    refused(call, Built::full, x -> x.copy(s, u[0], t, u[1], u[2]), dueOfCopy(s, t, false));
                }
                if (dueOfCopy(s, t, true) != 1) {
                    String call = "copy(" + s + ", 0, " + t + ", 1, 2)";
                    refused(call, Built::full, x -> x.copy(s, 0, t, 1, 2), dueOfCopy(s, t, true));
                }
            }
        }
    }

    private static void write() {
        is.sentence(36, FIRST, "BAD; NULL");
        for (int s : new int[] {-1, 0, 3, 4}) {
            refused("write(2, " + s + ")", Built::full, x -> x.write(2, s), Told.BAD);
            refused("write(-1, " + s + ")", Built::full, x -> x.write(-1, s), Told.BAD);
        }
        refused("write(0, 4)", Built::full, x -> x.write(0, 4), Told.BAD);
        refused("write(1, -1)", Built::full, x -> x.write(1, -1), Told.BAD);
        refused("write(0, 3), lost", Built::full, x -> x.write(0, 3), Told.NULL);
        refused("write(1, 3), lost", Built::full, x -> x.write(1, 3), Told.NULL);
    }

    private static void latestFinding() {
        is.sentence(37, "8 the number of the latest FINDING (0 before any)");
        PushedOver x = new PushedOver();
        is.due("before any", x.count(8), 0);
        x.type(9, 9);
        x.undo(0);
        x.back();
        x.lose(4);
        x.get(4, 0, 0);
        is.due("behind BAD and NOT", x.count(8), 0);
        x.sheet(0, 0, 1);
        x.sheet(1, 1, 1);
        is.due("behind what went well", x.count(8), 0);
        is.sentence(37, "FINDINGS (answers -10 less the number; they change nothing but count() 8)");
        Act[] acts = {y -> y.lose(2), y -> y.lay(0, 0, 1, 1), y -> y.lay(0, 1, 0, 1), y -> y.copy(0, 0, 1, 0, 1),
            y -> y.sheet(0, 0, -1)};
        for (int k = 0; k < acts.length; k++) {
            is.due("finding " + (k + 1), acts[k].on(x), -11 - k);
            is.due("finding " + (k + 1) + ", count(8)", x.count(8), k + 1);
            x.lay(0, 0, 0, 5);
            x.train(1000);
            x.digest();
            is.due("finding " + (k + 1) + " stays the latest", x.count(8), k + 1);
        }
        is.due("one more NULL", x.lose(3), Told.NULL);
        is.due("the latest, not the greatest", x.count(8), 1);
    }
}
