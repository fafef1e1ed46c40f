/** Promises 24 to 30, pushers and whistles: each sentence that names a boundary, by itself. */
public final class DayEdgeTest {
    private static final Checks is = new Checks("DayEdgeTest");

    public static void main(String[] args) {
        train();
        back();
        read();
        readUpToTwelve();
        readLost();
        late();
        lateByUpAndDown();
        lateInTurn();
        enough();
        whistles();
        whistlesAtTheEnds();
        words();
        is.end();
    }

    private static void train() {
        is.sentence(24, "TRAINS of a day, 12 at most");
        PushedOver x = new PushedOver();
        for (int i = 1; i <= 12; i++) {
            is.due("train " + i, x.train(i), i);
        }
        is.due("a thirteenth", x.train(0), Told.FULL);
        is.due("how many", x.count(4), 12);
        is.due("back()", x.back(), 11);
        is.due("room again", x.train(999), 12);
        is.due("full again", x.train(999), Told.FULL);
        is.sentence(24, "each is at the foot in a MINUTE (0 to 999)");
        PushedOver y = new PushedOver();
        is.due("train(0)", y.train(0), 1);
        is.due("train(999)", y.train(999), 2);
        for (int wrong : new int[] {-1, 1000, Told.LEAST, Told.MOST}) {
            is.due("train(" + wrong + ")", y.train(wrong), Told.BAD);
        }
        is.due("how many", y.count(4), 2);
        is.due("they do not wait", y.late(1, 0), 0);
    }

    private static void back() {
        is.sentence(25, "The last TRAIN of the day is undone: how many are left.");
        PushedOver x = Built.withDay(0, 0, 0, 0, 0, 0, 0, 0, 0, 0, 0, 0);
        for (int left = 11; left >= 0; left--) {
            is.due("back()", x.back(), left);
            is.due("the most that one waits", x.late(1, 1), 15 * Math.max(0, left - 1));
        }
        is.sentence(25, "NOT: there is none.");
        is.due("back()", x.back(), Told.NOT);
        is.due("back() again", x.back(), Told.NOT);
        is.due("none", x.count(4), 0);
        is.due("back() of a new one", new PushedOver().back(), Told.NOT);
        is.due("train(5) behind it", x.train(5), 1);
        is.due("back() of the only one", x.back(), 0);
    }

    private static void read() {
        is.sentence(26, "item by item, as long as each may be");
        int[][] cases = {{0}, {999}, {0, 999}, {-1}, {1000}, {5, -1, 6}, {5, 1000, 6}, {5, 6, Told.LEAST, 7}, {5, Told.MOST}};
        int[] due = {1, 1, 2, 0, 0, 1, 1, 2, 1};
        for (int k = 0; k < cases.length; k++) {
            PushedOver x = Built.withSheet(2, cases[k]);
            is.due("ints, case " + k, x.read(0), due[k]);
            is.due("ints, case " + k + ", TRAINS", x.count(4), due[k]);
        }
        is.due("a row of 0", Built.withSheet(2).read(0), 0);
        is.due("shorts", Built.withSheet(1, 999, 0, 1000).read(0), 2);
        is.due("bytes, 127 and one below 0", Built.withSheet(0, 127, 128).read(0), 1);
        PushedOver twice = Built.withSheet(2, 0, 0, 1000);
        is.due("once", twice.read(0), 2);
        is.due("once more", twice.read(0), 2);
        is.due("TRAINS", twice.count(4), 4);
        is.due("they wait as told", twice.late(1, 0), 15 + 30 + 45);
        is.due("the last one is undone", twice.back(), 3);
    }

    private static void readUpToTwelve() {
        is.sentence(26, "TRAINS of the day by a SHEET");
        for (int there = 0; there <= 12; there++) {
            PushedOver x = Built.withSheet(2, new int[60]);
            for (int i = 0; i < there; i++) {
                x.train(1);
            }
            is.due(there + " are there: read", x.read(0), 12 - there);
            is.due(there + " are there: TRAINS", x.count(4), 12);
            is.due(there + " are there: a thirteenth", x.train(0), Told.FULL);
        }
        is.due("just as many as there is room for", Built.withSheet(1, new int[12]).read(0), 12);
        is.due("one more", Built.withSheet(1, new int[13]).read(0), 12);
    }

    private static void readLost() {
        is.sentence(26, "TRAINS of the day by a SHEET, item by item, as long as each may be: how many. BAD; NULL.");
        PushedOver x = Built.withSheet(2, 7);
        for (int s : new int[] {-1, 4, Told.LEAST, Told.MOST}) {
            is.due("read(" + s + ")", x.read(s), Told.BAD);
        }
        is.due("no FINDING", x.count(8), 0);
        for (int s = 1; s < 4; s++) {
            is.due("read(" + s + "), LOST", x.read(s), Told.NULL);
        }
        is.due("FINDING 1", x.count(8), 1);
        is.due("no TRAINS", x.count(4), 0);
        x.lose(0);
        is.due("read(0), lost by now", x.read(0), Told.NULL);
        x.sheet(3, 2, 1);
        is.due("read(3), a new row", x.read(3), 1);
    }

    private static void late() {
        is.sentence(27, "with n pushers (1 to 6)");
        PushedOver x = Built.withDay(new int[12]);
        int[] together = {990, 450, 270, 180, 135, 90}, most = {165, 75, 45, 30, 30, 15};
        for (int n = 1; n <= 6; n++) {
            is.due("late(" + n + ", 0)", x.late(n, 0), together[n - 1]);
            is.due("late(" + n + ", 1)", x.late(n, 1), most[n - 1]);
        }
        for (int wrong : new int[] {-1, 0, 7, Told.LEAST, Told.MOST}) {
            is.due("late(" + wrong + ", 0)", x.late(wrong, 0), Told.BAD);
        }
        for (int wrong : new int[] {-1, 2, Told.LEAST, Told.MOST}) {
            is.due("late(6, " + wrong + ")", x.late(6, wrong), Told.BAD);
        }
        is.sentence(27, "LATE of n: the MINUTES that all trains wait, together; the most that one does");
        for (int n = 1; n <= 6; n++) {
            is.due("no TRAINS, together by " + n, new PushedOver().late(n, 0), 0);
            is.due("no TRAINS, the most by " + n, new PushedOver().late(n, 1), 0);
            is.due("one TRAIN by " + n, Built.withDay(999).late(n, 0), 0);
        }
        // They go in MINUTES 0, 15, 30 and 45: the most is not the last one's.
        PushedOver y = Built.withDay(0, 0, 10, 44);
        is.due("15, 20 and 1, together", y.late(1, 0), 36);
        is.due("15, 20 and 1, the most", y.late(1, 1), 20);
    }

    private static void lateByUpAndDown() {
        is.sentence(27, "UP (1 to 99; 10 at first) and DOWN (1 to 99; 5 at first) take a pusher so long");
        int[][] cases = {{1, 1}, {99, 1}, {1, 99}, {99, 99}};
        for (int[] c : cases) {
            PushedOver x = Built.withDay(999, 999);
            x.set(2, c[0]);
            x.set(3, c[1]);
            is.due("UP " + c[0] + ", DOWN " + c[1], x.late(1, 0), c[0] + c[1]);
            x.set(2, 100);
            x.set(3, 0);
            is.due("behind refused ones", x.late(1, 0), c[0] + c[1]);
        }
        is.due("at first", Built.withDay(3, 3).late(1, 1), 15);
        is.sentence(27, "each train in its turn goes as soon as it is there and one is free");
        is.due("a MINUTE too early", Built.withDay(0, 14).late(1, 0), 1);
        is.due("just as it is free", Built.withDay(0, 15).late(1, 0), 0);
        is.due("a MINUTE later", Built.withDay(0, 16).late(1, 0), 0);
        is.due("one of two is free", Built.withDay(0, 14, 15).late(2, 0), 0);
        is.due("of two, the one that is free first", Built.withDay(0, 9, 10, 24).late(2, 0), 5);
        PushedOver longest = Built.withDay(999, 999, 999, 999, 999, 999, 999, 999, 999, 999, 999, 999);
        longest.set(2, 99);
        longest.set(3, 99);
        is.due("the longest, together", longest.late(1, 0), 198 * 66);
        is.due("the longest, the most", longest.late(1, 1), 198 * 11);
    }

    private static void lateInTurn() {
        is.sentence(27, "told in any order; they are pushed by MINUTES, then as told");
        int[][] rows = {{0, 5, 30}, {0, 30, 5}, {5, 0, 30}, {5, 30, 0}, {30, 0, 5}, {30, 5, 0}};
        for (int[] row : rows) {
            PushedOver x = Built.withDay(row);
            is.due("together", x.late(1, 0), 10);
            is.due("the most", x.late(1, 1), 10);
            x.back();
            x.train(row[2]);
            is.due("asked again", x.late(1, 0), 10);
        }
        is.due("like ones", Built.withDay(7, 0, 7).late(1, 0), 8 + 23);
        is.due("told backwards, all twelve", Built.withDay(11, 10, 9, 8, 7, 6, 5, 4, 3, 2, 1, 0).late(1, 1), 11 * 14);
    }

    private static void enough() {
        is.sentence(28, "ENOUGH: the fewest pushers by which none waits more than told (0 to 999); NONE.");
        PushedOver x = Built.withDay(new int[12]);
        x.set(2, 99);
        x.set(3, 99);
        // The most that one waits by 1 to 6 pushers: 2178, 990, 594, 396, 396, 198.
        int[][] cases = {{999, 2}, {990, 2}, {989, 3}, {594, 3}, {593, 4}, {396, 4}, {395, 6}, {198, 6}, {197, Told.NONE},
            {0, Told.NONE}};
        for (int[] c : cases) {
            is.due("enough(" + c[0] + ")", x.enough(c[0]), c[1]);
        }
        for (int wrong : new int[] {-1, 1000, Told.LEAST, Told.MOST}) {
            is.due("enough(" + wrong + ")", x.enough(wrong), Told.BAD);
            is.due("enough(" + wrong + "), no TRAINS", new PushedOver().enough(wrong), Told.BAD);
        }
        is.due("no TRAINS", new PushedOver().enough(0), 1);
        is.due("no TRAINS, 999", new PushedOver().enough(999), 1);
        is.due("six at once", Built.withDay(new int[6]).enough(0), 6);
        is.due("seven at once", Built.withDay(new int[7]).enough(0), Told.NONE);
        is.due("seven at once, 14", Built.withDay(new int[7]).enough(14), Told.NONE);
        is.due("seven at once, 15", Built.withDay(new int[7]).enough(15), 4);
    }

    private static long times(long base, int times) {
        return times == 0 ? 1 : base * times(base, times - 1);
    }

    private static void whistles() {
        is.sentence(29, "each of k (0 to 9) is heard by c sixteenths (0 to 16), by itself: the chance that j are heard");
        for (int k = 0; k <= 9; k++) {
            PushedOver x = new PushedOver();
            for (int c = 0; c <= 16; c++) {
                long all = times(16, k), sum = 0;
                for (int j = 0; j <= k; j++) {
                    long above = x.whistles(k, c, j, 0), below = x.whistles(k, c, j, 1);
                    String name = j + " of " + k + " by " + c;
                    is.holds(name + ": a FRACTION", above >= 0 && below > 0 && all % below == 0 && above <= below);
                    is.holds(name + ": in lowest terms", below == 1 || above % 2 != 0);
                    sum += below > 0 ? above * (all / below) : 0;
                }
                is.due("the chances of " + k + " by " + c + ", together", sum, all);
            }
        }
        PushedOver x = new PushedOver();
        is.due("all of nine by 15, above", x.whistles(9, 15, 9, 0), times(15, 9));
        is.due("all of nine by 15, below", x.whistles(9, 15, 9, 1), times(16, 9));
        is.due("none of nine by 1, above", x.whistles(9, 1, 0, 0), times(15, 9));
        is.due("one of nine by 15, above", x.whistles(9, 15, 1, 0), 9 * 15);
        is.due("one of nine by 15, below", x.whistles(9, 15, 1, 1), times(16, 9));
    }

    private static void whistlesAtTheEnds() {
        is.sentence(29, "heard by c sixteenths (0 to 16)");
        PushedOver x = new PushedOver();
        for (int k = 0; k <= 9; k++) {
            for (int j = 0; j <= k; j++) {
                is.due(j + " of " + k + " by 0, above", x.whistles(k, 0, j, 0), j == 0 ? 1 : 0);
                is.due(j + " of " + k + " by 0, below", x.whistles(k, 0, j, 1), 1);
                is.due(j + " of " + k + " by 16, above", x.whistles(k, 16, j, 0), j == k ? 1 : 0);
                is.due(j + " of " + k + " by 16, below", x.whistles(k, 16, j, 1), 1);
            }
        }
        is.sentence(29, "WHISTLES: above, below. BAD (j 0 to k). (As the least long.)");
        for (int k = 0; k <= 9; k++) {
            for (int j : new int[] {-1, k + 1, Told.LEAST, Told.MOST}) {
                is.due(j + " of " + k, x.whistles(k, 8, j, 0), Told.LONG_BAD);
            }
        }
        for (int wrong : new int[] {-1, 10, Told.LEAST, Told.MOST}) {
            is.due("k " + wrong, x.whistles(wrong, 8, 0, 0), Told.LONG_BAD);
            is.due("k and j " + wrong, x.whistles(wrong, 8, wrong, 0), Told.LONG_BAD);
        }
        for (int wrong : new int[] {-1, 17, Told.LEAST, Told.MOST}) {
            is.due("c " + wrong, x.whistles(0, wrong, 0, 0), Told.LONG_BAD);
        }
        for (int wrong : new int[] {-1, 2, Told.LEAST, Told.MOST}) {
            is.due("what " + wrong, x.whistles(0, 0, 0, wrong), Told.LONG_BAD);
        }
    }

    private static void words() {
        is.sentence(30, "WORDS that lose m at most (0 to 9): the most numbers of WHISTLES (1 to 9)");
        PushedOver x = new PushedOver();
        int[] due = {9, 5, 3, 3, 2, 2, 2, 2, 1, 1};
        for (int m = 0; m <= 9; m++) {
            is.due("words(" + m + ")", x.words(m), due[m]);
        }
        is.sentence(30, "WORDS. BAD.");
        for (int wrong : new int[] {-1, 10, Told.LEAST, Told.MOST}) {
            is.due("words(" + wrong + ")", x.words(wrong), Told.BAD);
        }
    }
}
