import java.math.BigInteger;
import java.util.ArrayList;
import java.util.List;

/** Promises 31 to 38, sheets, counts and the digest: each sentence that names a boundary, by itself. */
public final class SheetsEdgeTest {
    private static final Checks is = new Checks("SheetsEdgeTest");
    private static final int[] WIDTHS = {8, 16, 32};

    public static void main(String[] args) {
        sheet();
        sheetRefused();
        lose();
        lay();
        layBits();
        layRefused();
        get();
        copy();
        copyOntoItself();
        copyIndex();
        write();
        writeBits();
        count();
        countEmptyAndFull();
        digest();
        digestOfNothing();
        digestBehindRefusals();
        is.end();
    }

    private static void dueItems(String name, PushedOver x, int s, int form, int... due) {
        for (int i = 0; i < due.length; i++) {
            is.due(name + ", item " + i, x.get(s, form, i), due[i]);
        }
    }

    private static void sheet() {
        is.sentence(31, "a row of a FORM: 0 bytes, 1 shorts, 2 ints, of 0 to 60 items (0 at first)");
        for (int s = 0; s < 4; s++) {
            for (int form = 0; form < 3; form++) {
                PushedOver x = new PushedOver();
                is.due("sheet(" + s + ", " + form + ", 60)", x.sheet(s, form, 60), 60);
                for (int i = 0; i < 60; i++) {
                    is.due("item " + i + " at first", x.get(s, form, i), 0);
                }
                is.due("item 60", x.lay(s, form, 60, 1), Told.INDEX);
                is.due("sheet(" + s + ", " + form + ", 0)", x.sheet(s, form, 0), 0);
                is.due("item 0 of none", x.lay(s, form, 0, 1), Told.INDEX);
                is.due("a row of 0 is not LOST", x.lose(s), 0);
            }
        }
        is.sentence(31, "A SHEET is a new row of a FORM with n items: n.");
        PushedOver x = Built.withSheet(0, 1, 2, 3);
        is.due("a new one of that FORM", x.sheet(0, 0, 3), 3);
        dueItems("a new one of that FORM", x, 0, 0, 0, 0, 0);
        x.lay(0, 0, 2, 7);
        x.sheet(0, 0, 2);
        x.sheet(0, 0, 3);
        is.due("a shorter one, then a longer one", x.get(0, 0, 2), 0);
        is.due("another FORM", x.sheet(0, 2, 1), 1);
        is.due("it has the new FORM", x.lay(0, 2, 0, 1), 1);
        is.due("it has no longer the old FORM", x.lay(0, 0, 0, 1), Told.CAST);
        is.due("it is no longer as long", x.lay(0, 2, 1, 1), Told.INDEX);
        is.due("the others are LOST as before", x.lose(1), Told.NULL);
    }

    private static void sheetRefused() {
        is.sentence(31, "BAD: SHEET, FORM, above 60; SIZE.");
        PushedOver x = Built.withSheet(1, 5, 6);
        for (int wrong : new int[] {-1, 4, Told.LEAST, Told.MOST}) {
            is.due("sheet(" + wrong + ", 0, 1)", x.sheet(wrong, 0, 1), Told.BAD);
        }
        for (int wrong : new int[] {-1, 3, Told.LEAST, Told.MOST}) {
            is.due("sheet(0, " + wrong + ", 1)", x.sheet(0, wrong, 1), Told.BAD);
        }
        for (int wrong : new int[] {61, 62, Told.MOST}) {
            is.due("sheet(0, 0, " + wrong + ")", x.sheet(0, 0, wrong), Told.BAD);
        }
        is.due("no FINDING", x.count(8), 0);
        for (int wrong : new int[] {-1, -2, Told.LEAST}) {
            is.due("sheet(0, 0, " + wrong + ")", x.sheet(0, 0, wrong), Told.SIZE);
        }
        is.due("FINDING 5", x.count(8), 5);
        dueItems("it is as it was", x, 0, 1, 5, 6);
        is.due("it has as many as it had", x.lose(0), 2);
        is.due("a LOST one, SIZE", x.sheet(3, 0, -1), Told.SIZE);
        is.due("it is LOST as before", x.lose(3), Told.NULL);
    }

    private static void lose() {
        is.sentence(32, "It is LOST: how many items it had.");
        for (int s = 0; s < 4; s++) {
            for (int n : new int[] {0, 1, 60}) {
                PushedOver x = new PushedOver();
                x.sheet(s, 1, n);
                is.due("lose(" + s + ") of " + n, x.lose(s), n);
                is.due("lose(" + s + ") again", x.lose(s), Told.NULL);
                is.due("get of it", x.get(s, 1, 0), Told.LEAST);
                is.due("FINDING 1", x.count(8), 1);
            }
        }
        PushedOver x = Built.full();
        is.due("one", x.lose(1), 3);
        is.due("another one is there", x.lose(0), 60);
        is.due("one anew", x.sheet(1, 1, 3), 3);
        dueItems("one anew", x, 1, 1, 0, 0, 0);
    }

    private static void lay() {
        is.sentence(33, "Item i, treated as of a FORM, becomes v");
        PushedOver x = new PushedOver();
        for (int form = 0; form < 3; form++) {
            x.sheet(form, form, 60);
            is.due("the first", x.lay(form, form, 0, 11 + form), 1);
            is.due("the last", x.lay(form, form, 59, 21 + form), 1);
        }
        for (int form = 0; form < 3; form++) {
            is.due("the first", x.get(form, form, 0), 11 + form);
            is.due("beside it", x.get(form, form, 1), 0);
            is.due("beside the last", x.get(form, form, 58), 0);
            is.due("the last", x.get(form, form, 59), 21 + form);
        }
    }

    /** What the lowest bits of v are, with a sign, by halves and not by casts. */
    private static int lowest(long v, int bits) {
        long size = 1L << bits;
        long low = ((v % size) + size) % size;
        return (int) (low < size / 2 ? low : low - size);
    }

    private static void layBits() {
        is.sentence(33, "becomes v (the lowest bits that it has): 1.");
        int[] values = {0, 1, -1, 127, 128, -128, -129, 255, 256, 257, 32767, 32768, -32768, -32769, 65535, 65536, 65537,
            Told.MOST, Told.MOST - 1, Told.LEAST, Told.LEAST + 1};
        for (int form = 0; form < 3; form++) {
            PushedOver x = new PushedOver();
            x.sheet(2, form, 1);
            for (int v : values) {
                is.due("lay(2, " + form + ", 0, " + v + ")", x.lay(2, form, 0, v), 1);
                is.due("it is, of FORM " + form + ", by " + v, x.get(2, form, 0), lowest(v, WIDTHS[form]));
            }
        }
        int[][] told = {{0, 128, -128}, {0, -129, 127}, {0, 256, 0}, {1, 32768, -32768}, {1, 65535, -1}, {2, Told.LEAST, Told.LEAST}};
        for (int[] t : told) {
            is.due("FORM " + t[0] + ", " + t[1], Built.withSheet(t[0], t[1]).get(0, t[0], 0), t[2]);
        }
    }

    private static void layRefused() {
        is.sentence(33, "BAD; NULL; CAST; INDEX.");
        PushedOver x = Built.withSheet(1, 5, 6);
        for (int wrong : new int[] {-1, 4, Told.LEAST, Told.MOST}) {
            is.due("lay(" + wrong + ", 1, 0, 9)", x.lay(wrong, 1, 0, 9), Told.BAD);
        }
        for (int wrong : new int[] {-1, 3, Told.LEAST, Told.MOST}) {
            is.due("lay(0, " + wrong + ", 0, 9)", x.lay(0, wrong, 0, 9), Told.BAD);
        }
        is.due("no FINDING", x.count(8), 0);
        is.due("LOST", x.lay(1, 1, 0, 9), Told.NULL);
        is.due("FINDING 1", x.count(8), 1);
        for (int form = 0; form < 3; form += 2) {
            is.due("lay(0, " + form + ", 0, 9)", x.lay(0, form, 0, 9), Told.CAST);
            is.due("FINDING 3", x.count(8), 3);
        }
        for (int wrong : new int[] {-1, 2, 60, Told.LEAST, Told.MOST}) {
            is.due("lay(0, 1, " + wrong + ", 9)", x.lay(0, 1, wrong, 9), Told.INDEX);
            is.due("FINDING 2", x.count(8), 2);
        }
        dueItems("it is as it was", x, 0, 1, 5, 6);
    }

    private static void dueGet(String call, PushedOver x, int got, int finding) {
        is.due(call, got, Told.LEAST);
        is.due(call + ", then count(8)", x.count(8), finding);
    }

    private static void get() {
        is.sentence(34, "Item i of it.");
        PushedOver x = Built.withSheet(2, 7, Told.LEAST, Told.MOST);
        dueItems("the first to the last", x, 0, 2, 7, Told.LEAST, Told.MOST);
        is.due("an item that is the least int is no FINDING", x.count(8), 0);
        is.sentence(34, "BAD: the least int; so are NULL, CAST, INDEX (count() 8 tells).");
        for (int wrong : new int[] {-1, 4, Told.LEAST, Told.MOST}) {
            dueGet("get(" + wrong + ", 2, 0)", x, x.get(wrong, 2, 0), 0);
        }
        for (int wrong : new int[] {-1, 3, Told.LEAST, Told.MOST}) {
            dueGet("get(0, " + wrong + ", 0)", x, x.get(0, wrong, 0), 0);
        }
        dueGet("LOST", x, x.get(3, 2, 0), 1);
        dueGet("as bytes", x, x.get(0, 0, 0), 3);
        dueGet("LOST again", x, x.get(1, 0, 9), 1);
        dueGet("as shorts", x, x.get(0, 1, 9), 3);
        for (int wrong : new int[] {-1, 3, 60, Told.LEAST, Told.MOST}) {
            dueGet("get(0, 2, " + wrong + ")", x, x.get(0, 2, wrong), 2);
        }
        dueGet("BAD behind a FINDING", x, x.get(4, 2, 0), 2);
    }

    private static void copy() {
        is.sentence(35, "n items of SHEET s, from i on, come to SHEET t (perhaps s, as they were), from j on: 1.");
        for (int form = 0; form < 3; form++) {
            PushedOver x = Built.withSheet(form, 1, 2, 3);
            x.sheet(3, form, 4);
            is.due("one, the last", x.copy(0, 2, 3, 3, 1), 1);
            dueItems("one, the last", x, 3, form, 0, 0, 0, 3);
            is.due("all", x.copy(0, 0, 3, 0, 3), 1);
            dueItems("all", x, 3, form, 1, 2, 3, 3);
            is.due("all, up to the end", x.copy(0, 0, 3, 1, 3), 1);
            dueItems("all, up to the end", x, 3, form, 1, 1, 2, 3);
            dueItems("s is as it was", x, 0, form, 1, 2, 3);
            is.due("none, from the ends on", x.copy(0, 3, 3, 4, 0), 1);
            is.due("none", x.copy(0, 0, 3, 0, 0), 1);
            dueItems("none", x, 3, form, 1, 1, 2, 3);
        }
        PushedOver empty = new PushedOver();
        empty.sheet(0, 0, 0);
        empty.sheet(1, 0, 0);
        is.due("none of a row of 0", empty.copy(0, 0, 1, 0, 0), 1);
        is.due("one of a row of 0", empty.copy(0, 0, 1, 0, 1), Told.INDEX);
        PushedOver most = Built.full();
        most.sheet(3, 0, 60);
        is.due("sixty", most.copy(0, 0, 3, 0, 60), 1);
        is.due("the last of sixty", most.get(3, 0, 39), most.get(0, 0, 39));
    }

    private static void copyOntoItself() {
        is.sentence(35, "(perhaps s, as they were)");
        int[] first = {1, 2, 3, 4, 5};
        for (int i = 0; i <= 5; i++) {
            for (int j = 0; j <= 5; j++) {
                for (int n = 0; n <= 5 - Math.max(i, j); n++) {
                    PushedOver x = Built.withSheet(1, first);
                    int[] due = first.clone();
                    for (int k = 0; k < n; k++) {
                        due[j + k] = first[i + k];
                    }
                    String name = "copy(0, " + i + ", 0, " + j + ", " + n + ")";
                    is.due(name, x.copy(0, i, 0, j, n), 1);
                    dueItems(name, x, 0, 1, due);
                }
            }
        }
    }

    private static void copyIndex() {
        is.sentence(35, "INDEX: below 0, not so many.");
        PushedOver x = Built.withSheet(2, 1, 2, 3);
        x.sheet(1, 2, 2);
        int[][] unfit = {{-1, 0, 1}, {0, -1, 1}, {0, 0, -1}, {-1, 0, 0}, {0, -1, 0}, {3, 0, 1}, {2, 0, 2}, {4, 0, 0}, {0, 3, 0},
            {0, 2, 1}, {0, 1, 2}, {0, 0, 3}, {0, 0, 4}, {Told.LEAST, 0, 1}, {0, Told.LEAST, 1}, {0, 0, Told.LEAST},
            {Told.MOST, 0, 1}, {0, Told.MOST, 1}, {0, 0, Told.MOST}, {1, 1, Told.MOST}, {Told.MOST, Told.MOST, Told.MOST},
            {Told.LEAST, Told.LEAST, Told.LEAST}, {Told.MOST, 0, 0}, {0, Told.MOST, 0}, {Told.LEAST, 0, Told.LEAST},
            {0, Told.LEAST, Told.MOST}, {Told.MOST, 0, 2}, {0, Told.MOST, 2}};
        for (int[] u : unfit) {
            String call = "copy(0, " + u[0] + ", 1, " + u[1] + ", " + u[2] + ")";
            is.due(call, x.copy(0, u[0], 1, u[1], u[2]), Told.INDEX);
            is.due(call + ", then count(8)", x.count(8), 2);
        }
        dueItems("s is as it was", x, 0, 2, 1, 2, 3);
        dueItems("t is as it was", x, 1, 2, 0, 0);
        is.sentence(35, "STORE");
        x.sheet(2, 1, 3);
        is.due("ints to shorts", x.copy(0, 0, 2, 0, 1), Told.STORE);
        is.due("shorts to ints", x.copy(2, 0, 0, 0, 0), Told.STORE);
        is.due("FINDING 4", x.count(8), 4);
        dueItems("shorts are as they were", x, 2, 1, 0, 0, 0);
    }

    private static void write() {
        is.sentence(36, "from item 0 on, as many as there are items, 40 at most: how many. BAD; NULL.");
        for (int n : new int[] {0, 1, 39, 40, 41, 60}) {
            for (int e = 0; e < 2; e++) {
                PushedOver x = Built.rule(Built.with("1", "", 70, 80), e, 2, 2);
                x.sheet(3, 2, n);
                for (int i = 0; i < n; i++) {
                    x.lay(3, 2, i, -5);
                }
                is.due("write(" + e + ", 3) of " + n, x.write(e, 3), Math.min(n, 40));
                for (int i = 0; i < n; i++) {
                    is.due("item " + i + " of " + n, x.get(3, 2, i), i < 40 ? x.gives(i, e) : -5);
                }
                is.due("it is as long as it was", x.lose(3), n);
            }
        }
        PushedOver x = Built.full();
        for (int wrong : new int[] {-1, 2, Told.LEAST, Told.MOST}) {
            is.due("write(" + wrong + ", 0)", x.write(wrong, 0), Told.BAD);
        }
        for (int wrong : new int[] {-1, 4, Told.LEAST, Told.MOST}) {
            is.due("write(0, " + wrong + ")", x.write(0, wrong), Told.BAD);
        }
        is.due("no FINDING more", x.count(8), 4);
        is.due("LOST", x.write(1, 3), Told.NULL);
        is.due("FINDING 1", x.count(8), 1);
    }

    private static void writeBits() {
        is.sentence(36, "What an engine gives in MINUTES 0 on comes to a SHEET");
        int[][] gives = {{0, 0}, {127, 127}, {128, -128}, {255, -1}, {256, 0}, {999, -25}};
        for (int[] g : gives) {
            PushedOver x = Built.with("1", "", g[0], 1);
            for (int form = 0; form < 3; form++) {
                x.sheet(form, form, 1);
                is.due("write(0, " + form + ")", x.write(0, form), 1);
                is.due(g[0] + " of FORM " + form, x.get(form, form, 0), form == 0 ? g[1] : g[0]);
            }
        }
    }

    private static void dueCounts(String name, PushedOver x, int... due) {
        for (int what = 0; what < due.length; what++) {
            is.due(name + ", count(" + what + ")", x.count(what), due[what]);
        }
    }

    private static void count() {
        is.sentence(37, "0 WAGONS, 1 PLACES, 2, 3 bytes of texts, 4 TRAINS of the day, 5 WHOLE, 6 BENDS, 7 SPEED in MINUTE 0");
        PushedOver x = Built.with("19", "12b3", 7, 8);
        x.train(5);
        x.set(4, 0);
        dueCounts("some", x, 2, 3, 2, 4, 1, 10, 1, 0, 0);
        is.sentence(37, "8 the number of the latest FINDING (0 before any). BAD.");
        for (int wrong : new int[] {-1, 9, Told.LEAST, Told.MOST}) {
            is.due("count(" + wrong + ")", x.count(wrong), Told.BAD);
        }
        is.due("count(8) before any", x.count(8), 0);
        x.lose(0);
        is.due("count(8) behind one", x.count(8), 1);
    }

    private static void countEmptyAndFull() {
        is.sentence(37, "0 WAGONS, 1 PLACES, 2, 3 bytes of texts, 4 TRAINS of the day, 5 WHOLE, 6 BENDS, 7 SPEED in MINUTE 0");
        dueCounts("a new one", new PushedOver(), 0, 0, 0, 0, 0, 0, 0, 5, 0);
        dueCounts("a full one", Built.full(), 12, 16, 12, 32, 12, 69, 16, 9, 4);
        dueCounts("with FAULTS", Built.faulty(), 0, 0, 4, 6, 1, 0, 0, 5, 2);
        PushedOver heavy = Built.speed(Built.with("9".repeat(12), "9".repeat(16)), 20);
        dueCounts("the heaviest", heavy, 12, 16, 12, 16, 0, 108, 0, 20, 0);
        PushedOver many = Built.with("0".repeat(12), "b".repeat(32));
        dueCounts("nothing but FAULTS", many, 0, 0, 12, 32, 0, 0, 0, 5, 0);
    }

    /** All that the digest is made of, in its order, by the object's other answers. */
    private static List<Long> parts(PushedOver x) {
        List<Long> all = new ArrayList<>();
        for (int what = 0; what <= 7; what++) all.add((long) x.count(what));
        for (int text = 0; text < 2; text++) all.add((long) x.fault(text));
        for (int k = 0; k < x.count(0); k++) {
            all.addAll(List.of((long) x.wagon(k), x.strain(3, k, 0), x.strain(3, k, 1)));
        }
        for (int place = 0; place < x.count(1); place++) {
            all.addAll(List.of((long) x.hill(place, 0), (long) x.hill(place, 1)));
        }
        for (int m : new int[] {0, 1, 7, 39}) {
            all.addAll(List.of((long) x.gives(m, 0), (long) x.gives(m, 1), (long) x.minute(m, 0), (long) x.minute(m, 1),
                (long) x.minute(m, 2), (long) x.slack(m)));
        }
        long[] more = {x.torn(), x.off(0), x.off(1), x.over(), x.settles(), x.swings(), x.does(0), x.does(1),
            x.start(0, 3), x.start(4, 1), x.safe(0), x.safe(1), x.order(0), x.order(1), x.squeeze(0), x.squeeze(1)};
        for (long v : more) all.add(v);
        for (int n = 1; n <= 6; n++) all.addAll(List.of((long) x.late(n, 0), (long) x.late(n, 1)));
        all.addAll(List.of((long) x.enough(9), x.whistles(5, 7, 3, 0), x.whistles(5, 7, 3, 1), (long) x.words(1)));
        return all;
    }

    private static BigInteger unwrapped(List<Long> parts) {
        BigInteger h = BigInteger.valueOf(17);
        for (long part : parts) {
            h = h.multiply(BigInteger.valueOf(31)).add(BigInteger.valueOf(part));
        }
        return h;
    }

    private static void digest() {
        is.sentence(38, "as longs that wrap");
        PushedOver[] made = {new PushedOver(), Built.full(), Built.faulty(), Built.with("91519", "25b9b40", 50, 500)};
        for (int k = 0; k < made.length; k++) {
            BigInteger whole = unwrapped(parts(made[k]));
            is.holds("state " + k + ": it has to wrap", whole.bitLength() > 64);
            is.due("state " + k + ": digest()", made[k].digest(), whole.longValue());
            is.due("state " + k + ": digest() again", made[k].digest(), whole.longValue());
        }
    }

    private static void digestOfNothing() {
        is.sentence(38, "slack() (as it is told)");
        List<Long> parts = parts(new PushedOver());
        // Eight counts and two FAULTS, then six answers for each of four MINUTES, slack() being the last of them.
        is.due("slack(0) is NOT among the parts", parts.get(15), Told.NOT);
        is.due("slack(39) is NOT among the parts", parts.get(33), Told.NOT);
        is.due("how many parts without WAGONS and PLACES", parts.size(), 10 + 24 + 16 + 12 + 4);
        is.due("digest() of a new object", new PushedOver().digest(), unwrapped(parts).longValue());
        is.sentence(38, "of WAGONS wagon(), strain(3, it, 0 and 1); of PLACES hill() 0, 1");
        is.due("how many parts of a full one", parts(Built.full()).size(), 66 + 12 * 3 + 16 * 2);
    }

    private static void digestBehindRefusals() {
        is.sentence(38, "count() 0 to 7");
        PushedOver x = Built.full();
        long h = x.digest();
        x.type(0, '1');
        x.train(5);
        x.set(0, 0);
        x.engine(0, 0, 1000);
        is.due("behind refused calls", x.digest(), h);
        x.lose(3);
        is.due("behind a FINDING", x.count(8), 1);
        is.due("count() 8 is not in it", x.digest(), h);
        x.lose(0);
        x.sheet(3, 2, 5);
        is.due("SHEETS are not in it", x.digest(), h);
        x.back();
        is.holds("TRAINS are", x.digest() != h);
    }
}
