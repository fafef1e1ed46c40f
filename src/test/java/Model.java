import java.math.BigInteger;
import java.util.ArrayList;
import java.util.Collections;
import java.util.List;

/**
 * The document once more, written another way: by definitions that call one another and by exact
 * fractions, without regard to speed. ModelTest compares PushedOver with it.
 */
final class Model {
    static final int NONE = -1, BAD = -2, NOT = -3, FULL = -4;

    private final List<List<Integer>> texts = List.of(new ArrayList<>(), new ArrayList<>());
    private final int[][] engines = {{100, 0, 1}, {100, 0, 1}};
    private final int[] settings = {300, 20, 10, 5, 5};
    private final List<Integer> day = new ArrayList<>();
    private final long[][] rows = new long[4][];
    private final int[] forms = new int[4];
    private int finding = 0;

    private static boolean in(int v, int least, int most) {
        return least <= v && v <= most;
    }

    private int find(int number) {
        finding = number;
        return -10 - number;
    }

    private static long asLong(int refusal) {
        return Long.MIN_VALUE + (-refusal);
    }

    /** An exact fraction, always in lowest terms. */
    private record Part(BigInteger above, BigInteger below) implements Comparable<Part> {
        static Part of(long above, long below) {
            return of(BigInteger.valueOf(above), BigInteger.valueOf(below));
        }

        static Part of(BigInteger above, BigInteger below) {
            BigInteger common = above.gcd(below);
            return new Part(above.divide(common), below.divide(common));
        }

        Part minus(Part other) {
            return of(above.multiply(other.below).subtract(other.above.multiply(below)), below.multiply(other.below));
        }

        Part by(long divisor) {
            return of(above, below.multiply(BigInteger.valueOf(divisor)));
        }

        Part times(Part other) {
            return of(above.multiply(other.above), below.multiply(other.below));
        }

        Part negated() {
            return new Part(above.negate(), below);
        }

        @Override
        public int compareTo(Part other) {
            return above.multiply(other.below).compareTo(other.above.multiply(below));
        }

        boolean more(long than) {
            return compareTo(of(than, 1)) > 0;
        }

        long told(int what) {
            return (what == 0 ? above : below).longValueExact();
        }
    }

    int type(int text, int b) {
        if (!in(text, 0, 1) || !in(b, 0, 255)) return BAD;
        if (texts.get(text).size() == (text == 0 ? 12 : 32)) return FULL;
        texts.get(text).add(b);
        return texts.get(text).size();
    }

    int wipe(int text) {
        if (!in(text, 0, 1)) return BAD;
        int had = texts.get(text).size();
        texts.get(text).clear();
        return had;
    }

    int undo(int text) {
        if (!in(text, 0, 1)) return BAD;
        if (texts.get(text).isEmpty()) return NOT;
        texts.get(text).remove(texts.get(text).size() - 1);
        return texts.get(text).size();
    }

    private String said(int text) {
        StringBuilder all = new StringBuilder();
        for (int b : texts.get(text)) all.append((char) b);
        return all.toString();
    }

    int fault(int text) {
        if (!in(text, 0, 1)) return BAD;
        String all = said(text);
        // The longest beginning that is well tells where the text cannot go on.
        for (int length = 1; length <= all.length(); length++) {
            String form = text == 0 ? "[1-9]*" : "([0-9]b?){0,16}";
            if (!all.substring(0, length).matches(form)) return length - 1;
        }
        return NONE;
    }

    private String well(int text) {
        return fault(text) == NONE ? said(text) : "";
    }

    private List<Integer> weights() {
        List<Integer> all = new ArrayList<>();
        for (char c : well(0).toCharArray()) all.add(c - '0');
        return all;
    }

    private List<String> places() {
        List<String> all = new ArrayList<>();
        for (String place : well(1).split("(?=[0-9])")) if (!place.isEmpty()) all.add(place);
        return all;
    }

    private static int sum(List<Integer> all) {
        return all.stream().mapToInt(Integer::intValue).sum();
    }

    int wagon(int wagon) {
        return in(wagon, 0, weights().size() - 1) ? weights().get(wagon) : BAD;
    }

    int hill(int place, int what) {
        if (!in(place, 0, places().size() - 1) || !in(what, 0, 1)) return BAD;
        String told = places().get(place);
        return what == 0 ? told.charAt(0) - '0' : told.length() - 1;
    }

    int engine(int engine, int what, int v) {
        int[] least = {0, 0, 1}, most = {999, 3, 5};
        if (!in(engine, 0, 1) || !in(what, 0, 2) || !in(v, least[what], most[what])) return BAD;
        int was = engines[engine][what];
        engines[engine][what] = v;
        return was;
    }

    int set(int what, int v) {
        int[] least = {1, 1, 1, 1, 0}, most = {999, 99, 99, 99, 20};
        if (!in(what, 0, 4) || !in(v, least[what], most[what])) return BAD;
        int was = settings[what];
        settings[what] = v;
        return was;
    }

    /** All forty minutes: front, back, needed, speed, tenths gone. */
    private int[][] minutes() {
        int[][] all = new int[40][5];
        List<String> places = places();
        int whole = sum(weights());
        for (int m = 0; m < 40; m++) {
            all[m][3] = m == 0 ? settings[4] : quicker(all[m - 1]);
            all[m][4] = m == 0 ? 0 : all[m - 1][4] + all[m - 1][3];
            int steep = places.isEmpty() ? 0 : places.get(Math.min(all[m][4] / 10, places.size() - 1)).charAt(0) - '0';
            all[m][2] = steep * whole;
            for (int e = 0; e < 2; e++) all[m][e] = ruled(all, m, e);
        }
        return all;
    }

    private static int quicker(int[] last) {
        int change = Integer.compare(last[0] + last[1], last[2]);
        return Math.max(0, Math.min(20, last[3] + change));
    }

    private int ruled(int[][] all, int m, int e) {
        int[] engine = engines[e];
        if (engine[1] == 0 || m < engine[2]) return engine[0];
        int felt = all[m - engine[2]][1 - e];
        if (engine[1] == 2) return felt;
        int leans = Math.min(999, Math.max(0, all[m][2] - felt));
        return engine[1] == 1 ? leans : (all[m - 1][e] + leans) / 2;
    }

    int gives(int minute, int engine) {
        return in(minute, 0, 39) && in(engine, 0, 1) ? minutes()[minute][engine] : BAD;
    }

    int minute(int minute, int what) {
        if (!in(minute, 0, 39) || !in(what, 0, 2)) return BAD;
        int[] then = minutes()[minute];
        if (what < 2) return then[2 + what];
        return then[4] / 10 < places().size() ? then[4] / 10 : NONE;
    }

    private static Part strainOf(List<Integer> weights, int coupling, int pull, int push) {
        long ahead = sum(weights.subList(0, coupling));
        return Part.of(pull, 1).minus(Part.of((pull + push) * ahead, sum(weights)));
    }

    private List<Part> strains(int pull, int push) {
        List<Part> all = new ArrayList<>();
        List<Integer> weights = weights();
        for (int k = 0; k <= weights.size() && !weights.isEmpty(); k++) all.add(strainOf(weights, k, pull, push));
        return all;
    }

    long strain(int minute, int coupling, int what) {
        if (!in(minute, 0, 39) || !in(coupling, 0, weights().size()) || !in(what, 0, 1)) return asLong(BAD);
        if (weights().isEmpty()) return asLong(NOT);
        return strains(gives(minute, 0), gives(minute, 1)).get(coupling).told(what);
    }

    int slack(int minute) {
        if (!in(minute, 0, 39)) return BAD;
        if (weights().isEmpty()) return NOT;
        List<Part> all = strains(gives(minute, 0), gives(minute, 1));
        for (int k = 0; k < all.size(); k++) if (!all.get(k).more(0)) return k;
        return NONE;
    }

    private boolean tears(int pull, int push) {
        return strains(pull, push).stream().anyMatch(p -> p.more(settings[0]));
    }

    private int squeezed(int pull, int push) {
        List<Part> all = strains(pull, push);
        for (int k = 0; k < weights().size(); k++) {
            long bears = (long) settings[1] * weights().get(k);
            if (all.get(k).negated().more(bears) && all.get(k + 1).negated().more(bears)) return k;
        }
        return NONE;
    }

    int torn() {
        for (int m = 0; m < 40; m++) if (tears(gives(m, 0), gives(m, 1))) return m;
        return NONE;
    }

    int off(int what) {
        if (!in(what, 0, 1)) return BAD;
        int[][] all = minutes();
        for (int m = 0; m < 40; m++) {
            int place = minute(m, 2);
            if (place == NONE || hill(place, 1) == 0) continue;
            int wagon = squeezed(all[m][0], all[m][1]);
            if (wagon != NONE) return what == 0 ? m : wagon;
        }
        return NONE;
    }

    int over() {
        if (places().isEmpty()) return NONE;
        for (int m = 0; m < 40; m++) if (minute(m, 2) == NONE) return m;
        return NONE;
    }

    private boolean same(int[] a, int[] b) {
        return a[0] == b[0] && a[1] == b[1];
    }

    int settles() {
        int[][] all = minutes();
        for (int m = 0; m <= 38; m++) {
            boolean stays = true;
            for (int n = m; n < 40; n++) stays &= same(all[m], all[n]);
            if (stays) return m;
        }
        return NONE;
    }

    int swings() {
        int[][] all = minutes();
        for (int p = 1; p <= 12; p++) {
            boolean again = true;
            for (int m = 20; m < 40; m++) again &= m + p > 39 || same(all[m], all[m + p]);
            if (again) return p;
        }
        return NONE;
    }

    int does(int what) {
        if (!in(what, 0, 1)) return BAD;
        long pulled = 0, both = 0;
        for (int[] m : minutes()) {
            pulled += m[0];
            both += m[0] + m[1];
        }
        return (int) (both == 0 ? Part.of(0, 1) : Part.of(pulled, both)).told(what);
    }

    int start(int a, int b) {
        if (!in(a, 0, 9) || !in(b, 0, 9)) return BAD;
        int pull = engines[0][0], push = engines[1][0];
        if (a < b) {
            pull += 10 * (b - a);
            push = 0;
        } else if (b < a) {
            push += 10 * (a - b);
            pull = 0;
        }
        return tears(pull, push) ? 1 : squeezed(pull, push) != NONE ? 2 : 0;
    }

    int safe(int what) {
        if (!in(what, 0, 1)) return BAD;
        List<Integer> well = new ArrayList<>();
        for (int a = 0; a < 10; a++) for (int b = 0; b < 10; b++) if (start(a, b) == 0) well.add(10 * a + b);
        if (what == 0) return well.size();
        return well.isEmpty() ? NONE : Collections.min(well);
    }

    private Part leastSqueeze;
    private List<Integer> leastRow;

    private void tryRows(List<Integer> row) {
        List<Integer> weights = weights();
        if (row.size() == weights.size()) {
            Part worst = worstOf(row);
            // Rows come by numbers, so the first of like ones is the least.
            if (leastSqueeze == null || worst.compareTo(leastSqueeze) < 0) {
                leastSqueeze = worst;
                leastRow = List.copyOf(row);
            }
            return;
        }
        for (int k = 0; k < weights.size(); k++) {
            if (row.contains(k)) continue;
            row.add(k);
            tryRows(row);
            row.remove(row.size() - 1);
        }
    }

    private Part worstOf(List<Integer> row) {
        List<Integer> inRow = new ArrayList<>();
        for (int k : row) inRow.add(weights().get(k));
        Part worst = Part.of(0, 1);
        for (int k = 0; k < inRow.size(); k++) {
            Part squeeze = strainOf(inRow, k, engines[0][0], engines[1][0]).negated().by(inRow.get(k));
            if (squeeze.compareTo(worst) > 0) worst = squeeze;
        }
        return worst;
    }

    private void seek() {
        leastSqueeze = null;
        leastRow = List.of();
        if (in(weights().size(), 1, 6)) tryRows(new ArrayList<>());
        if (leastSqueeze == null) leastSqueeze = Part.of(0, 1);
    }

    int order(int i) {
        if (!in(i, 0, 5)) return BAD;
        seek();
        return i < leastRow.size() ? leastRow.get(i) : NONE;
    }

    int squeeze(int what) {
        if (!in(what, 0, 1)) return BAD;
        seek();
        return (int) leastSqueeze.told(what);
    }

    int train(int minute) {
        if (!in(minute, 0, 999)) return BAD;
        if (day.size() == 12) return FULL;
        day.add(minute);
        return day.size();
    }

    int back() {
        if (day.isEmpty()) return NOT;
        day.remove(day.size() - 1);
        return day.size();
    }

    int read(int s) {
        if (!in(s, 0, 3)) return BAD;
        if (rows[s] == null) return find(1);
        int came = 0;
        for (long item : rows[s]) {
            if (train((int) item) < 0) break;
            came++;
        }
        return came;
    }

    /** Minute by minute: whoever is free takes whoever is first in the row of those that wait. */
    private int[] waits(int n) {
        List<Integer> coming = new ArrayList<>(day);
        Collections.sort(coming);
        int[] free = new int[n];
        int together = 0, most = 0, next = 0;
        for (int now = 0; next < coming.size(); now++) {
            for (int p = 0; p < n && next < coming.size() && coming.get(next) <= now; p++) {
                if (free[p] > now) continue;
                free[p] = now + settings[2] + settings[3];
                together += now - coming.get(next);
                most = Math.max(most, now - coming.get(next));
                next++;
            }
        }
        return new int[] {together, most};
    }

    int late(int n, int what) {
        return in(n, 1, 6) && in(what, 0, 1) ? waits(n)[what] : BAD;
    }

    int enough(int told) {
        if (!in(told, 0, 999)) return BAD;
        for (int n = 1; n <= 6; n++) if (waits(n)[1] <= told) return n;
        return NONE;
    }

    private static Part chance(int k, int c, int j) {
        if (j < 0 || j > k) return Part.of(0, 1);
        if (k == 0) return Part.of(1, 1);
        Part heard = chance(k - 1, c, j - 1).times(Part.of(c, 16));
        Part missed = chance(k - 1, c, j).times(Part.of(16 - c, 16));
        return heard.minus(missed.negated());
    }

    long whistles(int k, int c, int j, int what) {
        if (!in(k, 0, 9) || !in(c, 0, 16) || !in(j, 0, k) || !in(what, 0, 1)) return asLong(BAD);
        return chance(k, c, j).told(what);
    }

    /** Of all sets of numbers the greatest in which no two can be heard as the same number. */
    int words(int m) {
        if (!in(m, 0, 9)) return BAD;
        int most = 0;
        for (int set = 1; set < 1 << 9; set++) {
            boolean clear = true;
            for (int a = 1; a <= 9; a++) {
                for (int b = a + 1; b <= 9; b++) {
                    boolean both = (set >> (a - 1) & 1) == 1 && (set >> (b - 1) & 1) == 1;
                    clear &= !both || b - m > a;
                }
            }
            if (clear) most = Math.max(most, Integer.bitCount(set));
        }
        return most;
    }

    int sheet(int s, int form, int n) {
        if (!in(s, 0, 3) || !in(form, 0, 2) || n > 60) return BAD;
        if (n < 0) return find(5);
        rows[s] = new long[n];
        forms[s] = form;
        return n;
    }

    int lose(int s) {
        if (!in(s, 0, 3)) return BAD;
        if (rows[s] == null) return find(1);
        int had = rows[s].length;
        rows[s] = null;
        return had;
    }

    private static long held(int form, long v) {
        long size = 1L << (form == 0 ? 8 : form == 1 ? 16 : 32);
        long low = Math.floorMod(v, size);
        return low >= size / 2 ? low - size : low;
    }

    private int itemFinding(int s, int form, int i) {
        if (rows[s] == null) return 1;
        if (forms[s] != form) return 3;
        return in(i, 0, rows[s].length - 1) ? 0 : 2;
    }

    int lay(int s, int form, int i, int v) {
        if (!in(s, 0, 3) || !in(form, 0, 2)) return BAD;
        int wrong = itemFinding(s, form, i);
        if (wrong != 0) return find(wrong);
        rows[s][i] = held(form, v);
        return 1;
    }

    int get(int s, int form, int i) {
        if (!in(s, 0, 3) || !in(form, 0, 2)) return Integer.MIN_VALUE;
        int wrong = itemFinding(s, form, i);
        if (wrong != 0) {
            find(wrong);
            return Integer.MIN_VALUE;
        }
        return (int) rows[s][i];
    }

    int copy(int s, int i, int t, int j, int n) {
        if (!in(s, 0, 3) || !in(t, 0, 3)) return BAD;
        if (rows[s] == null || rows[t] == null) return find(1);
        if (forms[s] != forms[t]) return find(4);
        boolean fits = i >= 0 && j >= 0 && n >= 0 && (long) i + n <= rows[s].length && (long) j + n <= rows[t].length;
        if (!fits) return find(2);
        long[] were = rows[s].clone();
        for (int k = 0; k < n; k++) rows[t][j + k] = were[i + k];
        return 1;
    }

    int write(int engine, int s) {
        if (!in(engine, 0, 1) || !in(s, 0, 3)) return BAD;
        if (rows[s] == null) return find(1);
        int written = 0;
        for (; written < 40 && written < rows[s].length; written++) {
            rows[s][written] = held(forms[s], gives(written, engine));
        }
        return written;
    }

    int count(int what) {
        if (!in(what, 0, 8)) return BAD;
        int bends = 0;
        for (String place : places()) bends += place.length() - 1;
        int[] all = {weights().size(), places().size(), texts.get(0).size(), texts.get(1).size(), day.size(),
            sum(weights()), bends, settings[4], finding};
        return all[what];
    }

    long digest() {
        List<Long> all = new ArrayList<>();
        for (int i = 0; i <= 7; i++) all.add((long) count(i));
        for (int i = 0; i < 2; i++) all.add((long) fault(i));
        for (int i = 0; i < count(0); i++) {
            all.addAll(List.of((long) wagon(i), strain(3, i, 0), strain(3, i, 1)));
        }
        for (int i = 0; i < count(1); i++) all.addAll(List.of((long) hill(i, 0), (long) hill(i, 1)));
        for (int m : new int[] {0, 1, 7, 39}) {
            all.addAll(List.of((long) gives(m, 0), (long) gives(m, 1), (long) minute(m, 0), (long) minute(m, 1),
                (long) minute(m, 2), (long) slack(m)));
        }
        all.addAll(List.of((long) torn(), (long) off(0), (long) off(1), (long) over(), (long) settles(),
            (long) swings(), (long) does(0), (long) does(1)));
        all.addAll(List.of((long) start(0, 3), (long) start(4, 1), (long) safe(0), (long) safe(1),
            (long) order(0), (long) order(1), (long) squeeze(0), (long) squeeze(1)));
        for (int n = 1; n <= 6; n++) all.addAll(List.of((long) late(n, 0), (long) late(n, 1)));
        all.addAll(List.of((long) enough(9), whistles(5, 7, 3, 0), whistles(5, 7, 3, 1), (long) words(1)));
        long h = 17;
        for (long v : all) h = 31 * h + v;
        return h;
    }
}
