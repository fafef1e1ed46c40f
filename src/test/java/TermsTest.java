/**
 * What stands ahead of the promises ("Terms", ======== 1 to 4), in the document's order: the sentences
 * that tell what a word means. Those that name a boundary stand in the tests of their promises.
 */
public final class TermsTest {
    private static final Checks is = new Checks("TermsTest");
    private static final String[] TRAINS = {"1", "9", "11", "91519", "123456", "987654321987", "999999999999"};
    private static final int[][] GIVEN = {{0, 0}, {0, 1}, {1, 0}, {100, 100}, {7, 500}, {500, 7}, {999, 998}};

    public static void main(String[] args) {
        theHill();
        beginningsOfTexts();
        faults();
        whole();
        couplings();
        ruleZero();
        neededOfEachPlace();
        sheets();
        findings();
        inAMinute();
        strain();
        words();
        is.end();
    }

    private static int weightAhead(String train, int coupling) {
        int ahead = 0;
        for (int k = 0; k < coupling; k++) {
            ahead += train.charAt(k) - '0';
        }
        return ahead;
    }

    private static long common(long a, long b) {
        return b == 0 ? Math.abs(a) : common(b, a % b);
    }

    private static void theHill() {
        is.sentence(7, "PLACES, 16 at most (0 on), each a figure (0 to 9), how STEEP, and, where there is a BEND, b.");
        String hill = "0b12b3456b789b";
        PushedOver x = Built.with("", hill);
        is.due("PLACES", x.count(1), 10);
        is.due("BENDS", x.count(6), 4);
        for (int place = 0; place < 10; place++) {
            is.due("hill(" + place + ", 0)", x.hill(place, 0), place);
            is.due("hill(" + place + ", 1)", x.hill(place, 1), hill.contains(place + "b") ? 1 : 0);
        }
    }

    /** In both texts every place is one at which they may end, so no text of theirs is not ended. */
    private static void beginningsOfTexts() {
        is.sentence(5, "(an empty one is well; of one that is not ended, its end)");
        String train = "123456789123", hill = "0b1b2b3b4b5b6b7b8b9b0b1b2b3b4b5b";
        for (int n = 0; n <= train.length(); n++) {
            PushedOver x = Built.with(train.substring(0, n), "");
            is.due("FAULT of the first " + n, x.fault(0), Told.NONE);
            is.due("WAGONS of the first " + n, x.count(0), n);
        }
        for (int n = 0; n <= hill.length(); n++) {
            PushedOver x = Built.with("", hill.substring(0, n));
            is.due("FAULT of the first " + n, x.fault(1), Told.NONE);
            is.due("PLACES of the first " + n, x.count(1), (n + 1) / 2);
        }
    }

    private static void faults() {
        is.sentence(5, "The FAULT of a text is the place of the first byte with which it cannot go on");
        for (int at = 0; at < 12; at++) {
            PushedOver x = Built.with("5".repeat(at) + "0".repeat(12 - at), "5".repeat(at) + "x".repeat(20));
            is.due("FAULT of text 0", x.fault(0), at);
            is.due("FAULT of text 1", x.fault(1), at);
        }
    }

    private static void whole() {
        is.sentence(37, "WHOLE is all WEIGHT together.");
        for (String train : TRAINS) {
            PushedOver x = Built.with(train, "");
            int together = 0;
            for (int k = 0; k < train.length(); k++) {
                together += x.wagon(k);
            }
            is.due("WHOLE of " + train, x.count(5), together);
            is.due("WHOLE of " + train + ", by its figures", together, weightAhead(train, train.length()));
        }
        is.due("WHOLE of none", new PushedOver().count(5), 0);
    }

    /** Where the front gives nothing and the back gives WHOLE, a COUPLING is squeezed by what is AHEAD. */
    private static void couplings() {
        is.sentence(12, "COUPLING k (0 to as many as there are WAGONS) is ahead of WAGON k (the last one behind all); "
            + "AHEAD of it is the WEIGHT of all WAGONS ahead of it.");
        for (String train : TRAINS) {
            int last = train.length();
            PushedOver x = Built.with(train, "", 0, weightAhead(train, last));
            for (int k = 0; k <= last; k++) {
                is.due("AHEAD of COUPLING " + k + " of " + train, -x.strain(0, k, 0), weightAhead(train, k));
                is.due("below", x.strain(0, k, 1), 1);
            }
            is.due("no COUPLING behind the last one", x.strain(0, last + 1, 0), Told.LONG_BAD);
        }
    }

    private static void ruleZero() {
        is.sentence(10, "0: it gives GIVES (0 to 999; 100 at first)");
        for (int e = 0; e < 2; e++) {
            PushedOver x = Built.rule(Built.rule(Built.with("9", "9b0"), 1 - e, 1, 2), e, 0, 5);
            for (int v : new int[] {0, 1, 100, 998, 999}) {
                x.engine(e, 0, v);
                for (int m = 0; m < 40; m += 3) {
                    is.due("gives(" + m + ", " + e + "), " + v, x.gives(m, e), v);
                }
            }
        }
    }

    private static void neededOfEachPlace() {
        is.sentence(11, "NEEDED is how STEEP times WHOLE.", "In a MINUTE the train goes on by SPEED tenths of a PLACE");
        for (String train : TRAINS) {
            // 10 tenths in each MINUTE: what is NEEDED is given, but in MINUTE 0 nothing is NEEDED or given.
            PushedOver x = Built.leaning(0, train, "0719", 10);
            int all = weightAhead(train, train.length());
            int[] steep = {0, 7, 1, 9, 9, 9};
            for (int m = 0; m < steep.length; m++) {
                is.due("NEEDED of " + train + " in MINUTE " + m, x.minute(m, 0), steep[m] * all);
                is.due("PLACE of " + train + " in MINUTE " + m, x.minute(m, 2), m < 4 ? m : Told.NONE);
            }
        }
    }

    private static void sheets() {
        is.sentence(31, "SHEETS 0 .. 3 are LOST (at first) or a row of a FORM: 0 bytes, 1 shorts, 2 ints, "
            + "of 0 to 60 items (0 at first).");
        for (int s = 0; s < 4; s++) {
            PushedOver x = new PushedOver();
            is.due("LOST at first", x.get(s, 0, 0), Told.LEAST);
            is.due("it is NULL", x.count(8), 1);
            for (int form = 0; form < 3; form++) {
                is.due("a row", x.sheet(s, form, 60), 60);
                for (int i = 0; i < 60; i++) {
                    is.due("item " + i + " at first", x.get(s, form, i), 0);
                }
            }
            for (int other = 0; other < 4; other++) {
                is.due("each by itself", x.lose(other), other == s ? 60 : Told.NULL);
            }
        }
    }

    private static void findings() {
        is.sentence(37, "1 NULL: the SHEET is LOST; 2 INDEX: there is no such item; 3 CAST: it has another FORM; "
            + "4 STORE: unlike FORMS; 5 SIZE: below 0.");
        PushedOver x = Built.withSheet(0, 1, 2);
        x.sheet(1, 1, 2);
        long[] answers = {x.lay(2, 0, 0, 1), x.count(8), x.lay(0, 0, 2, 1), x.count(8), x.lay(0, 1, 0, 1), x.count(8),
            x.copy(0, 0, 1, 0, 1), x.count(8), x.sheet(0, 0, -1), x.count(8)};
        for (int number = 1; number <= 5; number++) {
            is.due("FINDING " + number, answers[2 * number - 2], -10 - number);
            is.due("FINDING " + number + ", count(8)", answers[2 * number - 1], number);
        }
    }

    private static void inAMinute() {
        is.sentence(11, "In a MINUTE: what each engine gives; NEEDED; SPEED; the PLACE.");
        PushedOver x = Built.with("12", "3b1", 5, 4);
        // What is given is as much as is NEEDED in PLACE 0 and more than in PLACE 1 and beyond it.
        int[][] due = {{5, 4, 9, 5, 0}, {5, 4, 9, 5, 0}, {5, 4, 3, 5, 1}, {5, 4, 3, 6, 1}, {5, 4, 3, 7, Told.NONE}};
        for (int m = 0; m < due.length; m++) {
            is.due("gives(" + m + ", 0)", x.gives(m, 0), due[m][0]);
            is.due("gives(" + m + ", 1)", x.gives(m, 1), due[m][1]);
            for (int what = 0; what < 3; what++) {
                is.due("minute(" + m + ", " + what + ")", x.minute(m, what), due[m][2 + what]);
            }
        }
    }

    private static void strain() {
        is.sentence(12, "STRAIN at a COUPLING: what the front gives less what both give times AHEAD by WHOLE "
            + "(above 0: pulled, below 0: squeezed): a FRACTION");
        for (String train : TRAINS) {
            for (int[] given : GIVEN) {
                PushedOver x = Built.with(train, "", given[0], given[1]);
                long whole = weightAhead(train, train.length());
                for (int k = 0; k <= train.length(); k++) {
                    long above = given[0] * whole - (given[0] + given[1]) * (long) weightAhead(train, k);
                    String name = given[0] + " and " + given[1] + " on " + train + ", COUPLING " + k;
                    is.due(name + ", above", x.strain(k, k, 0), above / common(above, whole));
                    is.due(name + ", below", x.strain(k, k, 1), whole / common(above, whole));
                }
            }
        }
    }

    /** All rows of numbers are tried: two of them stay apart if no number of WHISTLES can come of both. */
    private static void words() {
        is.sentence(30, "WORDS that lose m at most (0 to 9): the most numbers of WHISTLES (1 to 9) of which none "
            + "can be taken for another one.");
        for (int m = 0; m <= 9; m++) {
            int most = 0;
            for (int some = 0; some < 1 << 9; some++) {
                most = staysApart(some, m) ? Math.max(most, Integer.bitCount(some)) : most;
            }
            is.due("words(" + m + ")", new PushedOver().words(m), most);
        }
    }

    private static boolean staysApart(int some, int m) {
        int heard = 0;
        for (int word = 1; word <= 9; word++) {
            if ((some >> word - 1 & 1) == 0) {
                continue;
            }
            for (int left = Math.max(0, word - m); left <= word; left++) {
                if ((heard >> left & 1) != 0) {
                    return false;
                }
                heard |= 1 << left;
            }
        }
        return true;
    }
}
