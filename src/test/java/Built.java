/** Objects in the states that tests ask for. */
final class Built {
    static final String TWELVE = "987654321987";
    static final String SIXTEEN = "0123456789012345";

    private Built() {
    }

    static void type(PushedOver x, int text, String bytes) {
        for (char c : bytes.toCharArray()) {
            x.type(text, c);
        }
    }

    static PushedOver with(String train, String hill) {
        PushedOver x = new PushedOver();
        type(x, 0, train);
        type(x, 1, hill);
        return x;
    }

    static PushedOver with(String train, String hill, int pull, int push) {
        PushedOver x = with(train, hill);
        x.engine(0, 0, pull);
        x.engine(1, 0, push);
        return x;
    }

    static PushedOver rule(PushedOver x, int engine, int rule, int lag) {
        x.engine(engine, 1, rule);
        x.engine(engine, 2, lag);
        return x;
    }

    static PushedOver speed(PushedOver x, int speed) {
        x.set(4, speed);
        return x;
    }

    static PushedOver withDay(int... minutes) {
        PushedOver x = new PushedOver();
        for (int m : minutes) {
            x.train(m);
        }
        return x;
    }

    static PushedOver withSheet(int form, int... items) {
        PushedOver x = new PushedOver();
        x.sheet(0, form, items.length);
        for (int i = 0; i < items.length; i++) {
            x.lay(0, form, i, items[i]);
        }
        return x;
    }

    /** One engine leans, the other gives nothing: what is NEEDED is given, so it goes on as quick as it is. */
    static PushedOver leaning(int engine, String train, String hill, int speed) {
        return rule(speed(with(train, hill, 0, 0), speed), engine, 1, 1);
    }

    /**
     * Tenths 2, 3, then 4 in each MINUTE where nothing is NEEDED: 149 are gone in MINUTE 38, 153 in
     * MINUTE 39, so that the sixteenth PLACE begins in the last MINUTE there is.
     */
    static PushedOver lateAtLastPlace(int leans, String train, String hill) {
        PushedOver x = speed(with(train, hill, 0, 0), 2);
        x.engine(leans, 0, 1);
        return rule(x, leans, 1, 2);
    }

    /** Nothing that can be full has room left; sheet 3 is lost; the latest finding is 4. */
    static PushedOver full() {
        PushedOver x = with(TWELVE, "0b1b2b3b4b5b6b7b8b9b0b1b2b3b4b5b", 321, 123);
        rule(x, 0, 1, 2);
        rule(x, 1, 3, 4);
        int[] settings = {250, 30, 20, 7, 9};
        for (int what = 0; what < settings.length; what++) {
            x.set(what, settings[what]);
        }
        for (int i = 0; i < 12; i++) {
            x.train(i * 700 % 1000);
        }
        x.sheet(0, 0, 60);
        x.sheet(1, 1, 3);
        x.sheet(2, 2, 40);
        for (int s = 0; s < 3; s++) {
            x.write(s % 2, s);
        }
        x.copy(0, 0, 1, 0, 1);
        return x;
    }

    /** Both texts with a fault, one train of the day, a row without items; the latest finding is 2. */
    static PushedOver faulty() {
        PushedOver x = with("12x4", "1b2bb3", 5, 6);
        x.train(17);
        x.sheet(0, 2, 0);
        x.lay(0, 2, 0, 1);
        return x;
    }
}
