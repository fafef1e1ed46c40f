/** Counts answers that are not the ones that are due, and tells each with the promise it belongs to. */
final class Checks {
    private static final int MOST_TOLD = 40;
    private final String name;
    private String about = "";
    private int made = 0, wrong = 0, madeAhead = 0;

    Checks(String name) {
        this.name = name;
    }

    /** The calls from here on are about these words of the document, of a promise or ahead of it. */
    void sentence(int promise, String... words) {
        closeSentence();
        about = "promise " + promise + ", \"" + String.join("\" .. \"", words) + "\"";
        for (String said : words) {
            holds("the document says \"" + said + "\"", Document.PROMISED.saysOf(promise, said));
        }
        madeAhead = made;
    }

    /** A sentence without any call behind it would look tested, so it is told as wrong. */
    private void closeSentence() {
        if (!about.isEmpty() && made == madeAhead) {
            due("the test of this sentence makes calls", 0, 1);
        }
    }

    void due(String call, long got, long want) {
        made++;
        if (got != want) {
            wrong++;
            if (wrong <= MOST_TOLD) {
                String where = about.isEmpty() ? name : name + ", " + about;
                System.out.println(where + ": " + call + " answered " + got + ", due is " + want);
            }
        }
    }

    void holds(String what, boolean does) {
        due(what, does ? 1 : 0, 1);
    }

    int made() {
        return made;
    }

    boolean allWell() {
        return wrong == 0;
    }

    void end() {
        closeSentence();
        System.out.println((made - wrong) + " passed, " + wrong + " failed");
        if (wrong != 0 || made == 0) {
            System.exit(1);
        }
    }
}
