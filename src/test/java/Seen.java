import java.util.ArrayList;
import java.util.List;

/** All that an object tells of itself, in one row. The asking uses the object up. */
final class Seen {
    private final PushedOver x;
    private final List<Long> row = new ArrayList<>();

    private Seen(PushedOver x) {
        this.x = x;
    }

    /** Everything but the latest finding, which has to be asked for first. */
    static List<Long> of(PushedOver x) {
        Seen seen = new Seen(x);
        seen.add(x.digest());
        seen.sheets();
        seen.minutes();
        seen.day();
        seen.texts();
        seen.settings();
        return seen.row;
    }

    private void add(long answer) {
        row.add(answer);
    }

    private void sheets() {
        for (int s = 0; s < 4; s++) {
            int form = formOf(s);
            add(form);
            int size = sizeOf(s);
            for (int i = 0; i < size; i++) {
                add(x.get(s, form, i));
            }
            add(x.lose(s));
        }
    }

    private int formOf(int s) {
        for (int form = 0; form < 3; form++) {
            x.get(s, form, -1);
            if (x.count(8) == 2) {
                return form;
            }
        }
        return -1;
    }

    /** A row copied onto itself stays as it is, and tells whether it has so many items. */
    private int sizeOf(int s) {
        int has = 0, hasNot = 61;
        while (hasNot - has > 1) {
            int middle = (has + hasNot) / 2;
            if (x.copy(s, 0, s, 0, middle) == 1) {
                has = middle;
            } else {
                hasNot = middle;
            }
        }
        return has;
    }

    private void minutes() {
        for (int m = 0; m < 40; m += 5) {
            add(x.gives(m, 0));
            add(x.gives(m, 1));
            add(x.minute(m, 1));
        }
    }

    private void day() {
        for (int left = x.count(4); left > 0; left--) {
            add(x.late(1, 0));
            add(x.back());
        }
    }

    private void texts() {
        for (int text = 0; text < 2; text++) {
            for (int left = x.count(2 + text); left > 0; left--) {
                add(x.fault(text));
                add(x.undo(text));
            }
        }
    }

    private void settings() {
        for (int what = 0; what < 5; what++) {
            add(x.set(what, 1));
        }
        for (int engine = 0; engine < 2; engine++) {
            for (int what = 0; what < 3; what++) {
                add(x.engine(engine, what, 1));
            }
        }
    }
}
