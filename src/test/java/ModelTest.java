import java.util.Random;

/** Runs of 512 calls, the same on PushedOver and on the Model: every answer must be the same. */
public final class ModelTest {
    private static final int RUNS = 300, CALLS = 512;
    private final Checks checks = new Checks("ModelTest");
    private final Random random;
    private final PushedOver x = new PushedOver();
    private final Model y = new Model();

    private ModelTest(long seed) {
        random = new Random(seed);
    }

    public static void main(String[] args) {
        Checks runs = new Checks("ModelTest");
        for (int seed = 0; seed < RUNS; seed++) {
            ModelTest run = new ModelTest(seed);
            run.begin();
            while (run.checks.made() < CALLS - 1 && run.checks.allWell()) {
                run.call(run.random.nextInt(40));
            }
            run.digest();
            runs.holds("run " + seed, run.checks.allWell());
        }
        runs.end();
    }

    /** Mostly a number within bounds, now and then one just or far beyond them. */
    private int near(int least, int most) {
        int[] far = {Integer.MIN_VALUE, Integer.MAX_VALUE, -1, least - 1, most + 1, 1000};
        return random.nextInt(25) == 0 ? far[random.nextInt(far.length)] : within(least, most);
    }

    private int within(int least, int most) {
        return least + random.nextInt(most - least + 1);
    }

    private int edge(int least, int most) {
        int[] edges = {least, most, near(least, most), near(least, most)};
        return edges[random.nextInt(edges.length)];
    }

    private void begin() {
        int wagons = within(0, 13), bytes = within(0, 24);
        for (int i = 0; i < wagons; i++) {
            type(0, random.nextInt(60) == 0 ? '0' : within('1', '9'));
        }
        for (int i = 0; i < bytes; i++) {
            type(1, i % 2 == 1 && random.nextBoolean() ? 'b' : within('0', random.nextBoolean() ? '9' : '2'));
        }
        for (int e = 0; e < 2; e++) {
            engine(e, 0, edge(0, 999));
            engine(e, 1, within(0, 3));
            engine(e, 2, within(1, 5));
        }
    }

    private void type(int text, int b) {
        checks.due("type(" + text + ", " + b + ")", x.type(text, b), y.type(text, b));
    }

    private void engine(int e, int what, int v) {
        checks.due("engine(" + e + ", " + what + ", " + v + ")", x.engine(e, what, v), y.engine(e, what, v));
    }

    private void digest() {
        checks.due("digest()", x.digest(), y.digest());
    }

    private void call(int act) {
        if (act < 10) {
            change(act);
        } else if (act < 20) {
            askMinutes(act);
        } else if (act < 31) {
            askPlans(act);
        } else {
            useSheets(act);
        }
    }

    private void change(int act) {
        int text = near(0, 1), e = near(0, 1), what = near(0, 2), setting = near(0, 4);
        int b = random.nextInt(4) == 0 ? 'b' : random.nextInt(12) == 0 ? near(0, 255) : within('0', '9');
        int[] most = {999, 3, 5}, settingMost = {999, 99, 99, 99, 20};
        int v = edge(0, what >= 0 && what < 3 ? most[what] : 9);
        int w = edge(0, setting >= 0 && setting < 5 ? settingMost[setting] : 9);
        switch (act) {
            case 0: case 1: type(text, b); break;
            case 2: if (random.nextInt(8) == 0) checks.due("wipe(" + text + ")", x.wipe(text), y.wipe(text)); break;
            case 3: checks.due("undo(" + text + ")", x.undo(text), y.undo(text)); break;
            case 4: checks.due("fault(" + text + ")", x.fault(text), y.fault(text)); break;
            case 5: checks.due("wagon", x.wagon(v % 13), y.wagon(v % 13)); break;
            case 6: checks.due("hill", x.hill(v % 17, text), y.hill(v % 17, text)); break;
            case 7: case 8: engine(e, what, v); break;
            default: checks.due("set(" + setting + ", " + w + ")", x.set(setting, w), y.set(setting, w));
        }
    }

    private void askMinutes(int act) {
        int m = near(0, 39), one = near(0, 1), two = near(0, 2), coupling = near(0, 12);
        switch (act) {
            case 10: checks.due("gives(" + m + ", " + one + ")", x.gives(m, one), y.gives(m, one)); break;
            case 11: checks.due("minute(" + m + ", " + two + ")", x.minute(m, two), y.minute(m, two)); break;
            case 12:
                checks.due("strain(" + m + ", " + coupling + ", " + one + ")",
                    x.strain(m, coupling, one), y.strain(m, coupling, one));
                break;
            case 13: checks.due("slack(" + m + ")", x.slack(m), y.slack(m)); break;
            case 14: checks.due("torn()", x.torn(), y.torn()); break;
            case 15: checks.due("off(" + one + ")", x.off(one), y.off(one)); break;
            case 16: checks.due("over()", x.over(), y.over()); break;
            case 17: checks.due("settles()", x.settles(), y.settles()); break;
            case 18: checks.due("swings()", x.swings(), y.swings()); break;
            default: checks.due("does(" + one + ")", x.does(one), y.does(one));
        }
    }

    private void askPlans(int act) {
        int one = near(0, 1), a = near(0, 9), b = near(0, 9), c = near(0, 16), n = near(1, 6), m = edge(0, 999);
        int soon = random.nextInt(4) == 0 ? m : near(0, 60);
        switch (act) {
            case 20: checks.due("start(" + a + ", " + b + ")", x.start(a, b), y.start(a, b)); break;
            case 21: checks.due("safe(" + one + ")", x.safe(one), y.safe(one)); break;
            case 22:
                if (random.nextInt(6) == 0) checks.due("order(" + n + ")", x.order(n - 1), y.order(n - 1));
                break;
            case 23:
                if (random.nextInt(6) == 0) checks.due("squeeze(" + one + ")", x.squeeze(one), y.squeeze(one));
                break;
            case 24: case 25: checks.due("train(" + soon + ")", x.train(soon), y.train(soon)); break;
            case 26: checks.due("back()", x.back(), y.back()); break;
            case 27: checks.due("late(" + n + ", " + one + ")", x.late(n, one), y.late(n, one)); break;
            case 28: checks.due("enough(" + soon + ")", x.enough(soon), y.enough(soon)); break;
            case 29:
                checks.due("whistles(" + a + ", " + c + ", " + b + ", " + one + ")",
                    x.whistles(a, c, b, one), y.whistles(a, c, b, one));
                break;
            default: checks.due("words(" + a + ")", x.words(a), y.words(a));
        }
    }

    private void useSheets(int act) {
        int s = near(0, 3), t = near(0, 3), form = near(0, 2), i = near(0, 12), j = near(0, 12), n = near(0, 12);
        int size = random.nextInt(3) == 0 ? edge(0, 60) : within(0, 14), one = near(0, 1), what = near(0, 8);
        int v = random.nextInt(3) == 0 ? random.nextInt() : edge(0, 999);
        switch (act) {
            case 31: case 32: checks.due("sheet(" + s + ", " + form + ", " + size + ")",
                x.sheet(s, form, size), y.sheet(s, form, size)); break;
            case 33:
                if (random.nextInt(4) == 0) checks.due("lose(" + s + ")", x.lose(s), y.lose(s));
                break;
            case 34: checks.due("lay(" + s + ", " + form + ", " + i + ", " + v + ")",
                x.lay(s, form, i, v), y.lay(s, form, i, v)); break;
            case 35: checks.due("get(" + s + ", " + form + ", " + i + ")", x.get(s, form, i), y.get(s, form, i)); break;
            case 36: checks.due("copy(" + s + ", " + i + ", " + t + ", " + j + ", " + n + ")",
                x.copy(s, i, t, j, n), y.copy(s, i, t, j, n)); break;
            case 37: checks.due("write(" + one + ", " + s + ")", x.write(one, s), y.write(one, s)); break;
            case 38: checks.due("read(" + s + ")", x.read(s), y.read(s)); break;
            default: checks.due("count(" + what + ")", x.count(what), y.count(what));
        }
    }
}
