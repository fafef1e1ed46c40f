/** The numbers that the document tells for refusals, and the ends of int. */
final class Told {
    static final int NONE = -1, BAD = -2, NOT = -3, FULL = -4;
    static final int NULL = -11, INDEX = -12, CAST = -13, STORE = -14, SIZE = -15;
    static final long LONG_BAD = Long.MIN_VALUE + 2, LONG_NOT = Long.MIN_VALUE + 3;
    static final int LEAST = Integer.MIN_VALUE, MOST = Integer.MAX_VALUE;

    private Told() {
    }
}
