/** Counts answers that are not the ones that are due, and tells each. */
final class Checks {
    private static final int MOST_TOLD = 40;
    private final String name;
    private int made = 0, wrong = 0;

    Checks(String name) {
        this.name = name;
    }

    void due(String call, long got, long want) {
        made++;
        if (got != want) {
            wrong++;
            if (wrong <= MOST_TOLD) {
                System.out.println(name + ": " + call + " answered " + got + ", due is " + want);
            }
        }
    }

    void holds(String what, boolean does) {
        due(what, does ? 1 : 0, 1);
    }

    boolean allWell() {
        return wrong == 0;
    }

    void end() {
        System.out.println((made - wrong) + " passed, " + wrong + " failed");
        if (wrong != 0 || made == 0) {
            System.exit(1);
        }
    }
}
