/** Promises 1 to 9, train, hill, engines: each sentence that names a boundary, by itself. */
public final class TextsEdgeTest {
    private static final Checks is = new Checks("TextsEdgeTest");
    private static final String FIGURES = "0123456789";

    public static void main(String[] args) {
        newObject();
        type();
        typeUpToFull();
        wipe();
        undo();
        undoneAsNeverTyped();
        faultOfTrain();
        faultOfHill();
        seventeenthPlace();
        faultIsAsEmpty();
        wagon();
        hill();
        engine();
        set();
        is.end();
    }

    private static void newObject() {
        is.sentence(1, "No TRAIN; all SHEETS are LOST.");
        PushedOver x = new PushedOver();
        is.due("WAGONS", x.count(0), 0);
        is.due("bytes of text 0", x.count(2), 0);
        is.due("bytes of text 1", x.count(3), 0);
        is.due("wagon(0)", x.wagon(0), Told.BAD);
        is.due("TRAINS of the day", x.count(4), 0);
        is.due("back()", x.back(), Told.NOT);
        for (int s = 0; s < 4; s++) {
            for (int form = 0; form < 3; form++) {
                is.due("lay(" + s + ", " + form + ", 0, 1)", new PushedOver().lay(s, form, 0, 1), Told.NULL);
            }
            is.due("lose(" + s + ")", new PushedOver().lose(s), Told.NULL);
        }
        is.sentence(1, "GIVES (0 to 999; 100 at first)");
        is.due("gives(0, 0)", new PushedOver().gives(0, 0), 100);
        is.due("gives(39, 1)", new PushedOver().gives(39, 1), 100);
    }

    private static void type() {
        is.sentence(2, "A byte (0 to 255) comes behind a text: how many.");
        for (int text = 0; text < 2; text++) {
            PushedOver x = new PushedOver();
            is.due("type(" + text + ", 0)", x.type(text, 0), 1);
            is.due("type(" + text + ", 255)", x.type(text, 255), 2);
            for (int wrong : new int[] {-1, 256, Told.LEAST, Told.MOST}) {
                is.due("type(" + text + ", " + wrong + ")", x.type(text, wrong), Told.BAD);
            }
            is.due("as many as ahead of the wrong ones", x.count(2 + text), 2);
            is.due("none in the other text", x.count(3 - text), 0);
        }
        for (int b = 0; b < 256; b++) {
            is.due("type(0, " + b + ")", new PushedOver().type(0, b), 1);
        }
        for (int text : new int[] {-1, 2, Told.LEAST, Told.MOST}) {
            is.due("type(" + text + ", 49)", new PushedOver().type(text, 49), Told.BAD);
        }
    }

    private static void typeUpToFull() {
        is.sentence(2, "THE TRAIN (text 0) is up to 12 figures (1 to 9)");
        upToFull(0, 12, '9', '8');
        is.sentence(2, "THE HILL (text 1) is up to 32 bytes");
        upToFull(1, 32, '0', 'b');
    }

    private static void upToFull(int text, int most, int b, int other) {
        PushedOver x = new PushedOver();
        for (int i = 1; i <= most; i++) {
            is.due("byte " + i, x.type(text, b), i);
        }
        is.due("one more", x.type(text, other), Told.FULL);
        is.due("still one more", x.type(text, b), Told.FULL);
        is.due("as many as there may be", x.count(2 + text), most);
        is.due("the other text has room", x.type(1 - text, '1'), 1);
        is.due("undo", x.undo(text), most - 1);
        is.due("room again", x.type(text, other), most);
        is.due("and full again", x.type(text, other), Told.FULL);
        is.due("wipe", x.wipe(text), most);
        is.due("room for all", x.type(text, b), 1);
    }

    private static void wipe() {
        is.sentence(3, "A text is empty: how many bytes it had.");
        PushedOver x = new PushedOver();
        is.due("wipe(0) of an empty one", x.wipe(0), 0);
        is.due("wipe(1) of an empty one", x.wipe(1), 0);
        PushedOver full = Built.full();
        is.due("wipe(0) of a full one", full.wipe(0), 12);
        is.due("no WAGONS", full.count(0), 0);
        is.due("no bytes", full.count(2), 0);
        is.due("the other one is as it was", full.count(3), 32);
        is.due("wipe(1) of a full one", full.wipe(1), 32);
        is.due("no PLACES", full.count(1), 0);
        is.due("no BENDS", full.count(6), 0);
        PushedOver faulty = Built.faulty();
        is.due("wipe(0) of one with a FAULT", faulty.wipe(0), 4);
        is.due("wipe(1) of one with a FAULT", faulty.wipe(1), 6);
        is.due("no FAULT of text 0", faulty.fault(0), Told.NONE);
        is.due("no FAULT of text 1", faulty.fault(1), Told.NONE);
        is.due("undo(0) behind it", faulty.undo(0), Told.NOT);
    }

    private static void undo() {
        is.sentence(4, "The last byte of a text is undone: how many are left.");
        PushedOver x = Built.full();
        for (int left = 11; left >= 0; left--) {
            is.due("undo(0)", x.undo(0), left);
            is.due("WAGONS left", x.count(0), left);
        }
        for (int left = 31; left >= 0; left--) {
            is.due("undo(1)", x.undo(1), left);
            is.due("PLACES left", x.count(1), (left + 1) / 2);
            is.due("BENDS left", x.count(6), left / 2);
        }
        is.sentence(4, "NOT: it is empty.");
        is.due("undo(0)", x.undo(0), Told.NOT);
        is.due("undo(1)", x.undo(1), Told.NOT);
        is.due("undo(0) of a new one", new PushedOver().undo(0), Told.NOT);
        is.due("type(0) behind it", x.type(0, '3'), 1);
        is.due("undo(0) of the only one", x.undo(0), 0);
    }

    /** Pulled and pushed so that little more than what is typed would tear or squeeze something off. */
    private static PushedOver strained(String train, String hill) {
        PushedOver x = Built.with(train, hill, 0, 40);
        x.set(0, 40);
        return x;
    }

    private static void undoneAsNeverTyped() {
        is.sentence(4, "The last byte of a text is undone");
        String train = "1".repeat(12), hill = "0b".repeat(16);
        for (int left = 0; left <= 12; left++) {
            PushedOver x = strained(train, hill);
            for (int i = left; i < 12; i++) {
                x.undo(0);
            }
            is.holds("WAGONS, " + left + " left", Seen.of(x).equals(Seen.of(strained(train.substring(0, left), hill))));
        }
        for (int left = 0; left <= 32; left++) {
            PushedOver x = strained("11", hill);
            x.engine(1, 0, 41);
            for (int i = left; i < 32; i++) {
                x.undo(1);
            }
            PushedOver fresh = strained("11", hill.substring(0, left));
            fresh.engine(1, 0, 41);
            is.holds("PLACES, " + left + " bytes left", Seen.of(x).equals(Seen.of(fresh)));
        }
        is.sentence(3, "A text is empty");
        is.holds("wiped", Seen.of(strainedAnew("", "")).equals(Seen.of(strained("", ""))));
        is.holds("typed anew", Seen.of(strainedAnew("11", "0b0")).equals(Seen.of(strained("11", "0b0"))));
    }

    /** As strained, typed where full texts have been wiped. */
    private static PushedOver strainedAnew(String train, String hill) {
        PushedOver x = strained("1".repeat(12), "0b".repeat(16));
        x.wipe(0);
        x.wipe(1);
        Built.type(x, 0, train);
        Built.type(x, 1, hill);
        return x;
    }

    private static void faultOfTrain() {
        is.sentence(5, "THE TRAIN (text 0) is up to 12 figures (1 to 9)");
        for (int b = 0; b < 256; b++) {
            boolean goesOn = b >= '1' && b <= '9';
            PushedOver x = new PushedOver();
            x.type(0, b);
            is.due("byte " + b + " alone", x.fault(0), goesOn ? Told.NONE : 0);
            PushedOver last = Built.with("11111111111", "");
            last.type(0, b);
            is.due("byte " + b + " as the twelfth", last.fault(0), goesOn ? Told.NONE : 11);
        }
        is.sentence(5, "the place of the first byte with which it cannot go on (an empty one is well");
        is.due("empty", new PushedOver().fault(0), Told.NONE);
        is.due("the first of two", Built.with("12a4b", "").fault(0), 2);
        PushedOver x = Built.with("a", "");
        is.due("at the beginning", x.fault(0), 0);
        x.undo(0);
        is.due("empty again", x.fault(0), Told.NONE);
    }

    /** The hill, and one byte behind it: where its FAULT is, by whether the byte is a figure, b, or else. */
    private static void behind(String hill, int ifFigure, int ifBend) {
        for (int b = 0; b < 256; b++) {
            PushedOver x = Built.with("", hill);
            x.type(1, b);
            int due = b == 'b' ? ifBend : FIGURES.indexOf(b) >= 0 ? ifFigure : hill.length();
            is.due("byte " + b + " behind '" + hill + "'", x.fault(1), due);
        }
    }

    private static void faultOfHill() {
        is.sentence(5, "each a figure (0 to 9), how STEEP, and, where there is a BEND, b");
        behind("", Told.NONE, 0);
        behind("0", Told.NONE, Told.NONE);
        behind("9b", Told.NONE, 2);
        behind("09", Told.NONE, Told.NONE);
        is.sentence(5, "the place of the first byte with which it cannot go on (an empty one is well");
        is.due("empty", new PushedOver().fault(1), Told.NONE);
        is.due("the first of two", Built.with("", "1bbxx").fault(1), 2);
        is.due("one that may end is well", Built.with("", "1b2").fault(1), Told.NONE);
        is.sentence(5, "The FAULT of a text");
        is.due("fault(0) is of the train alone", Built.with("1", "x").fault(0), Told.NONE);
        is.due("fault(1) is of the hill alone", Built.with("x", "1").fault(1), Told.NONE);
    }

    private static void seventeenthPlace() {
        is.sentence(5, "here also of the first byte of a seventeenth PLACE");
        behind(Built.SIXTEEN, 16, Told.NONE);
        behind(Built.SIXTEEN + "b", 17, 17);
        behind("0b".repeat(15) + "0", 31, Told.NONE);
        is.due("not of its b", Built.with("", Built.SIXTEEN + "7b").fault(1), 16);
        is.due("sixteen figures", Built.with("", Built.SIXTEEN).fault(1), Told.NONE);
        PushedOver full = Built.with("", "0b".repeat(16));
        is.due("sixteen with BENDS, 32 bytes", full.fault(1), Told.NONE);
        is.due("PLACES", full.count(1), 16);
        is.due("no room for a seventeenth", full.type(1, '0'), Told.FULL);
        is.due("an earlier FAULT comes first", Built.with("", "0bb" + Built.SIXTEEN).fault(1), 2);
        PushedOver all = Built.with("", "5".repeat(32));
        is.due("32 figures", all.fault(1), 16);
        for (int left = 31; left >= 16; left--) {
            is.due("PLACES of 17 figures and more", all.count(1), 0);
            all.undo(1);
        }
        is.due("PLACES of 16 figures", all.count(1), 16);
        is.due("FAULT of 16 figures", all.fault(1), Told.NONE);
    }

    private static void faultIsAsEmpty() {
        is.sentence(5, "With a FAULT a text is as if it was empty.");
        PushedOver x = Built.with("99", "9b9b", 0, 999);
        is.due("it goes off", x.off(0), 0);
        x.type(0, '0');
        int[] counts = {0, 2, 3, 4, 0, 0, 2, 5};
        for (int what = 0; what < counts.length; what++) {
            is.due("a FAULT of the train, count(" + what + ")", x.count(what), counts[what]);
        }
        is.due("NEEDED", x.minute(0, 0), 0);
        is.due("slack(0)", x.slack(0), Told.NOT);
        is.due("strain(0, 0, 0)", x.strain(0, 0, 0), Told.LONG_NOT);
        is.due("strain(0, 2, 0)", x.strain(0, 2, 0), Told.LONG_BAD);
        is.due("off(0)", x.off(0), Told.NONE);
        is.due("order(0)", x.order(0), Told.NONE);
        is.due("squeeze(0)", x.squeeze(0), 0);
        is.due("start(9, 0)", x.start(9, 0), 0);
        x.undo(0);
        is.due("it goes off again", x.off(0), 0);
        x.type(1, '*');
        is.due("a FAULT of the hill, PLACES", x.count(1), 0);
        is.due("a FAULT of the hill, BENDS", x.count(6), 0);
        is.due("a FAULT of the hill, bytes", x.count(3), 5);
        is.due("a FAULT of the hill, WAGONS", x.count(0), 2);
        is.due("hill(0, 0)", x.hill(0, 0), Told.BAD);
        is.due("off(0) without PLACES", x.off(0), Told.NONE);
        is.due("over() without PLACES", x.over(), Told.NONE);
        is.due("minute(0, 2)", x.minute(0, 2), Told.NONE);
    }

    private static void wagon() {
        is.sentence(6, "WAGONS (0 on, from the front), by WEIGHT.");
        PushedOver x = Built.full();
        int[] weights = {9, 8, 7, 6, 5, 4, 3, 2, 1, 9, 8, 7};
        for (int k = 0; k < weights.length; k++) {
            is.due("wagon(" + k + ")", x.wagon(k), weights[k]);
        }
        is.sentence(6, "WEIGHT of a WAGON. BAD.");
        for (int k : new int[] {-1, 12, Told.LEAST, Told.MOST}) {
            is.due("wagon(" + k + ") of 12", x.wagon(k), Told.BAD);
        }
        PushedOver one = Built.with("1", "");
        is.due("wagon(0) of one, the least", one.wagon(0), 1);
        is.due("wagon(1) of one", one.wagon(1), Told.BAD);
        is.due("wagon(0) of none", new PushedOver().wagon(0), Told.BAD);
        is.due("wagon(0) with a FAULT", Built.with("1x", "").wagon(0), Told.BAD);
    }

    private static void hill() {
        is.sentence(7, "PLACES, 16 at most (0 on)");
        PushedOver x = Built.with("", Built.SIXTEEN + "b");
        for (int place = 0; place < 16; place++) {
            is.due("hill(" + place + ", 0)", x.hill(place, 0), place % 10);
            is.due("hill(" + place + ", 1)", x.hill(place, 1), place == 15 ? 1 : 0);
        }
        is.sentence(7, "How STEEP a PLACE is (what = 0), whether there is a BEND (1). BAD.");
        for (int place : new int[] {-1, 16, Told.LEAST, Told.MOST}) {
            is.due("hill(" + place + ", 0)", x.hill(place, 0), Told.BAD);
            is.due("hill(" + place + ", 1)", x.hill(place, 1), Told.BAD);
        }
        for (int what : new int[] {-1, 2, Told.LEAST, Told.MOST}) {
            is.due("hill(0, " + what + ")", x.hill(0, what), Told.BAD);
        }
        is.due("hill(0, 0) of none", new PushedOver().hill(0, 0), Told.BAD);
        is.due("hill(1, 0) of one", Built.with("", "7b").hill(1, 0), Told.BAD);
        is.due("hill(0, 0) with a FAULT", Built.with("", "7bb").hill(0, 0), Told.BAD);
        PushedOver bent = Built.with("", "0b1b");
        bent.undo(1);
        is.due("a BEND undone", bent.hill(1, 1), 0);
        is.due("a BEND that stays", bent.hill(0, 1), 1);
        bent.wipe(1);
        Built.type(bent, 1, "33");
        is.due("a BEND wiped", bent.hill(0, 1), 0);
    }

    /** Of one number of an engine: what it is at first, its ends, and that wrong ones leave it as it is. */
    private static void dial(int what, int first, int least, int most) {
        for (int e = 0; e < 2; e++) {
            PushedOver x = new PushedOver();
            String call = "engine(" + e + ", " + what + ", ";
            is.due(call + most + ") at first", x.engine(e, what, most), first);
            for (int wrong : new int[] {least - 1, most + 1, Told.LEAST, Told.MOST}) {
                is.due(call + wrong + ")", x.engine(e, what, wrong), Told.BAD);
            }
            is.due(call + least + ")", x.engine(e, what, least), most);
            is.due(call + first + ")", x.engine(e, what, first), least);
            is.due("of the other engine", x.engine(1 - e, what, least), first);
        }
    }

    private static void engine() {
        is.sentence(8, "GIVES (0 to 999; 100 at first)");
        dial(0, 100, 0, 999);
        is.sentence(8, "RULES of both engines (0 front, 1 back; RULE 0 at first)");
        dial(1, 0, 0, 3);
        is.sentence(8, "LAG (1 to 5; 1 at first)");
        dial(2, 1, 1, 5);
        is.sentence(8, "GIVES (what = 0), RULE (1), LAG (2) of an engine: what it was. BAD.");
        PushedOver x = new PushedOver();
        for (int wrong : new int[] {-1, 2, Told.LEAST, Told.MOST}) {
            is.due("engine(" + wrong + ", 0, 5)", x.engine(wrong, 0, 5), Told.BAD);
        }
        for (int wrong : new int[] {-1, 3, Told.LEAST, Told.MOST}) {
            is.due("engine(0, " + wrong + ", 1)", x.engine(0, wrong, 1), Told.BAD);
        }
        is.due("gives(0, 0) behind wrong ones", x.gives(0, 0), 100);
        is.due("the same again", x.engine(0, 0, 100), 100);
    }

    /** Of one setting: what it is at first, its ends, and that wrong ones leave it as it is. */
    private static void setting(int what, int first, int least, int most) {
        PushedOver x = new PushedOver();
        is.due("set(" + what + ", " + most + ") at first", x.set(what, most), first);
        for (int wrong : new int[] {least - 1, most + 1, Told.LEAST, Told.MOST}) {
            is.due("set(" + what + ", " + wrong + ")", x.set(what, wrong), Told.BAD);
        }
        is.due("set(" + what + ", " + least + ")", x.set(what, least), most);
        is.due("set(" + what + ", " + first + ")", x.set(what, first), least);
        int[] firsts = {300, 20, 10, 5, 5};
        for (int other = 0; other < 5; other++) {
            is.due("set(" + other + ", 1) is by itself", x.set(other, 1), firsts[other]);
        }
    }

    private static void set() {
        is.sentence(9, "TEAR (1 to 999; 300 at first)");
        setting(0, 300, 1, 999);
        is.sentence(9, "HOLD (1 to 99; 20 at first)");
        setting(1, 20, 1, 99);
        is.sentence(9, "UP (1 to 99; 10 at first)");
        setting(2, 10, 1, 99);
        is.sentence(9, "DOWN (1 to 99; 5 at first)");
        setting(3, 5, 1, 99);
        is.sentence(9, "SPEED in MINUTE 0 is 0 to 20 (5 at first)");
        setting(4, 5, 0, 20);
        PushedOver x = new PushedOver();
        is.due("minute(0, 1) at first", x.minute(0, 1), 5);
        x.set(4, 20);
        is.due("minute(0, 1), the greatest", x.minute(0, 1), 20);
        x.set(4, 21);
        is.due("minute(0, 1) behind 21", x.minute(0, 1), 20);
        x.set(4, 0);
        is.due("minute(0, 1), the least", x.minute(0, 1), 0);
        x.set(4, -1);
        is.due("count(7) behind -1", x.count(7), 0);
        is.sentence(9, "what it was. BAD.");
        for (int wrong : new int[] {-1, 5, Told.LEAST, Told.MOST}) {
            is.due("set(" + wrong + ", 1)", x.set(wrong, 1), Told.BAD);
        }
    }
}
