import java.util.ArrayList;
import java.util.LinkedHashMap;
import java.util.List;
import java.util.Map;

/** "What it is": an object serves for 512 calls, whatever they are, and by itself. */
public final class LifeTest {
    private static final int LAST = 512;
    private static final String USED = "An object is used for at most 512 calls after it has been made";
    private static final Checks is = new Checks("LifeTest");

    /** A call on an object. */
    private interface Act {
        long on(PushedOver x);
    }

    private static final Map<String, Act> ASKING = new LinkedHashMap<>();
    private static final Map<String, Act> CHANGING = new LinkedHashMap<>();

    public static void main(String[] args) {
        askTexts();
        askMinutes();
        askPlans();
        change();
        is.due("acts", ASKING.size() + CHANGING.size(), 37);
        eachActAsTheLast();
        toAndFro();
        alwaysTheSame();
        eachByItself();
        is.end();
    }

    private static void askTexts() {
        ASKING.put("fault", x -> x.fault(1));
        ASKING.put("wagon", x -> x.wagon(11));
        ASKING.put("hill", x -> x.hill(15, 0));
        ASKING.put("get", x -> x.get(2, 2, 39));
        ASKING.put("count", x -> x.count(5));
        ASKING.put("digest", x -> x.digest());
    }

    private static void askMinutes() {
        ASKING.put("gives", x -> x.gives(39, 1));
        ASKING.put("minute", x -> x.minute(39, 1));
        ASKING.put("strain", x -> x.strain(39, 7, 0));
        ASKING.put("slack", x -> x.slack(39));
        ASKING.put("torn", x -> x.torn());
        ASKING.put("off", x -> x.off(1));
        ASKING.put("over", x -> x.over());
        ASKING.put("settles", x -> x.settles());
        ASKING.put("swings", x -> x.swings());
        ASKING.put("does", x -> x.does(1));
    }

    private static void askPlans() {
        ASKING.put("start", x -> x.start(4, 1));
        ASKING.put("safe", x -> x.safe(0));
        ASKING.put("order", x -> x.order(5));
        ASKING.put("squeeze", x -> x.squeeze(1));
        ASKING.put("late", x -> x.late(2, 0));
        ASKING.put("enough", x -> x.enough(99));
        ASKING.put("whistles", x -> x.whistles(9, 5, 4, 0));
        ASKING.put("words", x -> x.words(3));
    }

    private static void change() {
        CHANGING.put("type", x -> x.type(0, '7'));
        CHANGING.put("wipe", x -> x.wipe(1));
        CHANGING.put("undo", x -> x.undo(0));
        CHANGING.put("engine", x -> x.engine(1, 0, 77));
        CHANGING.put("set", x -> x.set(4, 3));
        CHANGING.put("train", x -> x.train(8));
        CHANGING.put("back", x -> x.back());
        CHANGING.put("read", x -> x.read(2));
        CHANGING.put("sheet", x -> x.sheet(3, 1, 60));
        CHANGING.put("lose", x -> x.lose(0));
        CHANGING.put("lay", x -> x.lay(0, 0, 59, 300));
        CHANGING.put("copy", x -> x.copy(0, 0, 0, 30, 30));
        CHANGING.put("write", x -> x.write(1, 0));
    }

    /** Built.full() takes 74 calls; from then on it is asked, and stays as it is. */
    private static PushedOver used(int calls) {
        PushedOver x = Built.full();
        List<Act> asking = new ArrayList<>(ASKING.values());
        for (int i = 74; i < calls; i++) {
            asking.get(i % asking.size()).on(x);
        }
        return x;
    }

    private static void eachActAsTheLast() {
        is.sentence(1, USED);
        Map<String, Act> all = new LinkedHashMap<>(ASKING);
        all.putAll(CHANGING);
        all.forEach((name, act) -> {
            long due = act.on(Built.full());
            for (int call : new int[] {75, 256, 257, LAST - 1, LAST}) {
                is.due(name + " as call " + call, act.on(used(call - 1)), due);
            }
        });
    }

    private static void toAndFro() {
        is.sentence(1, USED);
        PushedOver x = new PushedOver();
        for (int i = 0; i < 255; i++) {
            is.due("type", x.type(0, '4'), 1);
            is.due("undo", x.undo(0), 0);
        }
        is.due("call 511", x.type(0, '4'), 1);
        is.due("call 512", x.wagon(0), 4);
        PushedOver y = new PushedOver();
        for (int i = 0; i < 128; i++) {
            is.due("sheet", y.sheet(3, i % 3, 60), 60);
            is.due("lay", y.lay(3, i % 3, 59, i), 1);
            is.due("get", y.get(3, i % 3, 59), i);
            is.due("lose, at last call 512", y.lose(3), 60);
        }
    }

    private static List<Long> answers() {
        PushedOver x = Built.full();
        List<Long> all = new ArrayList<>();
        for (int round = 0; round < 8; round++) {
            CHANGING.values().forEach(act -> all.add(act.on(x)));
            ASKING.values().forEach(act -> all.add(act.on(x)));
        }
        return all;
    }

    private static void alwaysTheSame() {
        is.sentence(1, USED);
        List<Long> first = answers();
        for (int again = 0; again < 5; again++) {
            is.holds("the same calls, the same answers", answers().equals(first));
        }
    }

    /** Two objects in turn, one of them changed in all ways: the other one is as if it was alone. */
    private static void eachByItself() {
        is.sentence(1, "No TRAIN; all SHEETS are LOST.");
        CHANGING.forEach((name, act) -> {
            PushedOver changed = Built.full();
            PushedOver fresh = new PushedOver();
            PushedOver beside = Built.full();
            act.on(changed);
            is.holds(name + " on another one", Seen.of(beside).equals(Seen.of(Built.full())));
            is.due(name + " on another one, a new one", fresh.digest(), new PushedOver().digest());
            is.due(name + " on another one, a lost sheet", fresh.lose(3), Told.NULL);
        });
        PushedOver first = new PushedOver();
        PushedOver second = new PushedOver();
        first.lose(0);
        is.due("a FINDING of another one", second.count(8), 0);
        second.sheet(0, 0, -1);
        is.due("each has its latest FINDING", first.count(8), 1);
    }
}
