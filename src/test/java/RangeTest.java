import java.util.ArrayList;
import java.util.List;

/**
 * BAD is "a number not as told, no such thing": for each number of each act the least and the greatest
 * one that are allowed, the ones beyond them, the least and the greatest int, and the state behind.
 */
public final class RangeTest {
    private static final String BAD_IS = "BAD -2 (a number not as told, no such thing)";
    private static final Checks is = new Checks("RangeTest");

    /** A call of an act with its numbers. */
    private interface Act {
        long on(PushedOver x, int[] numbers);
    }

    public static void main(String[] args) {
        texts();
        engines();
        settings();
        minutes();
        starts();
        day();
        whistles();
        sheets();
        is.end();
    }

    private static int[] of(int least, int most) {
        return new int[] {least, most};
    }

    /** Any int is taken here. */
    private static int[] any() {
        return of(Told.LEAST, Told.MOST);
    }

    private static List<Integer> beyond(int[] range) {
        List<Integer> all = new ArrayList<>();
        if (range[0] != Told.LEAST) {
            all.add(range[0] - 1);
            all.add(Told.LEAST);
        }
        if (range[1] != Told.MOST) {
            all.add(range[1] + 1);
            all.add(Told.MOST);
        }
        return all;
    }

    /** The numbers are taken at both ends of their ranges, and each beyond one of them is BAD. */
    private static void ranges(int promise, String name, long bad, Act act, int[]... ranges) {
        is.sentence(promise, BAD_IS);
        int[] leasts = new int[ranges.length];
        int[] mosts = new int[ranges.length];
        for (int i = 0; i < ranges.length; i++) {
            leasts[i] = ranges[i][0] == Told.LEAST ? 0 : ranges[i][0];
            mosts[i] = ranges[i][1] == Told.MOST ? 0 : ranges[i][1];
        }
        is.holds(told(name, leasts) + " is taken", act.on(Built.full(), leasts) != bad);
        is.holds(told(name, mosts) + " is taken", act.on(Built.full(), mosts) != bad);
        for (int i = 0; i < ranges.length; i++) {
            for (int wrong : beyond(ranges[i])) {
                refused(name, bad, act, leasts, i, wrong);
                refused(name, bad, act, mosts, i, wrong);
            }
        }
    }

    private static void refused(String name, long bad, Act act, int[] numbers, int i, int wrong) {
        int[] made = numbers.clone();
        made[i] = wrong;
        PushedOver x = Built.full();
        is.due(told(name, made), act.on(x, made), bad);
        is.due(told(name, made) + ", then count(8)", x.count(8), 4);
        is.holds(told(name, made) + " changes nothing", Seen.of(x).equals(Seen.of(Built.full())));
    }

    private static String told(String name, int[] numbers) {
        StringBuilder all = new StringBuilder(name).append("(");
        for (int i = 0; i < numbers.length; i++) {
            all.append(i == 0 ? "" : ", ").append(numbers[i]);
        }
        return all.append(")").toString();
    }

    private static void texts() {
        ranges(2, "type", Told.BAD, (x, n) -> x.type(n[0], n[1]), of(0, 1), of(0, 255));
        ranges(3, "wipe", Told.BAD, (x, n) -> x.wipe(n[0]), of(0, 1));
        ranges(4, "undo", Told.BAD, (x, n) -> x.undo(n[0]), of(0, 1));
        ranges(5, "fault", Told.BAD, (x, n) -> x.fault(n[0]), of(0, 1));
        ranges(6, "wagon", Told.BAD, (x, n) -> x.wagon(n[0]), of(0, 11));
        ranges(7, "hill", Told.BAD, (x, n) -> x.hill(n[0], n[1]), of(0, 15), of(0, 1));
    }

    private static void engines() {
        ranges(8, "engine", Told.BAD, (x, n) -> x.engine(n[0], n[1], 1), of(0, 1), of(0, 2));
        int[][] told = {of(0, 999), of(0, 3), of(1, 5)};
        for (int k = 0; k < told.length; k++) {
            int what = k;
            ranges(8, "engine, what = " + k, Told.BAD, (x, n) -> x.engine(n[0], what, n[1]), of(0, 1), told[k]);
        }
    }

    private static void settings() {
        ranges(9, "set", Told.BAD, (x, n) -> x.set(n[0], 1), of(0, 4));
        int[][] told = {of(1, 999), of(1, 99), of(1, 99), of(1, 99), of(0, 20)};
        for (int k = 0; k < told.length; k++) {
            int what = k;
            ranges(9, "set, what = " + k, Told.BAD, (x, n) -> x.set(what, n[0]), told[k]);
        }
    }

    private static void minutes() {
        ranges(10, "gives", Told.BAD, (x, n) -> x.gives(n[0], n[1]), of(0, 39), of(0, 1));
        ranges(11, "minute", Told.BAD, (x, n) -> x.minute(n[0], n[1]), of(0, 39), of(0, 2));
        ranges(12, "strain", Told.LONG_BAD, (x, n) -> x.strain(n[0], n[1], n[2]), of(0, 39), of(0, 12), of(0, 1));
        ranges(13, "slack", Told.BAD, (x, n) -> x.slack(n[0]), of(0, 39));
        ranges(15, "off", Told.BAD, (x, n) -> x.off(n[0]), of(0, 1));
        ranges(19, "does", Told.BAD, (x, n) -> x.does(n[0]), of(0, 1));
    }

    private static void starts() {
        ranges(20, "start", Told.BAD, (x, n) -> x.start(n[0], n[1]), of(0, 9), of(0, 9));
        ranges(21, "safe", Told.BAD, (x, n) -> x.safe(n[0]), of(0, 1));
        ranges(22, "order", Told.BAD, (x, n) -> x.order(n[0]), of(0, 5));
        ranges(23, "squeeze", Told.BAD, (x, n) -> x.squeeze(n[0]), of(0, 1));
    }

    private static void day() {
        ranges(24, "train", Told.BAD, (x, n) -> x.train(n[0]), of(0, 999));
        ranges(26, "read", Told.BAD, (x, n) -> x.read(n[0]), of(0, 3));
        ranges(27, "late", Told.BAD, (x, n) -> x.late(n[0], n[1]), of(1, 6), of(0, 1));
        ranges(28, "enough", Told.BAD, (x, n) -> x.enough(n[0]), of(0, 999));
    }

    private static void whistles() {
        Act none = (x, n) -> x.whistles(n[0], n[1], 0, n[2]);
        ranges(29, "whistles, j = 0", Told.LONG_BAD, none, of(0, 9), of(0, 16), of(0, 1));
        for (int k = 0; k <= 9; k++) {
            int all = k;
            Act heard = (x, n) -> x.whistles(all, n[0], n[1], n[2]);
            ranges(29, "whistles, k = " + k, Told.LONG_BAD, heard, of(0, 16), of(0, k), of(0, 1));
        }
        ranges(30, "words", Told.BAD, (x, n) -> x.words(n[0]), of(0, 9));
    }

    private static void sheets() {
        ranges(31, "sheet", Told.BAD, (x, n) -> x.sheet(n[0], n[1], n[2]), of(0, 3), of(0, 2), of(Told.LEAST, 60));
        ranges(32, "lose", Told.BAD, (x, n) -> x.lose(n[0]), of(0, 3));
        Act lay = (x, n) -> x.lay(n[0], n[1], n[2], n[3]);
        ranges(33, "lay", Told.BAD, lay, of(0, 3), of(0, 2), any(), any());
        Act copy = (x, n) -> x.copy(n[0], n[1], n[2], n[3], n[4]);
        ranges(35, "copy", Told.BAD, copy, of(0, 3), any(), of(0, 3), any(), any());
        ranges(36, "write", Told.BAD, (x, n) -> x.write(n[0], n[1]), of(0, 1), of(0, 3));
        ranges(37, "count", Told.BAD, (x, n) -> x.count(n[0]), of(0, 8));
    }
}
