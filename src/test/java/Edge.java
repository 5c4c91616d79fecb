import java.util.NoSuchElementException;

/** The exceptions of the face by short names, and the numbers that are outside of each range. */
final class Edge {
    static final Class<IndexOutOfBoundsException> NO_INDEX = IndexOutOfBoundsException.class;
    static final Class<IllegalArgumentException> NO_ARGUMENT = IllegalArgumentException.class;
    static final Class<IllegalStateException> NO_STATE = IllegalStateException.class;
    static final Class<NoSuchElementException> NO_ELEMENT = NoSuchElementException.class;
    static final Class<ArithmeticException> NO_QUOTIENT = ArithmeticException.class;

    /** The urgencies from the least to the greatest one. */
    static final String URGENCIES = "rsud";

    /** A question about a station, a call or a rank by its number. */
    interface Question {
        Object of(int number);
    }

    /** The exchange that is asked such a question. */
    interface Asked {
        Question on(FoghornExchange x);
    }

    private Edge() {
    }

    /** The numbers next to a range on both sides, and those farthest from it. */
    static int[] outside(int least, int most) {
        return new int[] {least - 1, most + 1, Integer.MIN_VALUE, Integer.MAX_VALUE};
    }

    /** The ends of a range, and the numbers next to them inside. */
    static int[] inside(int least, int most) {
        return new int[] {least, least + 1, most - 1, most};
    }

    /** A distress or an urgency breaks in on all that are less urgent; the others on none. */
    static boolean breaksIn(char urgency, char other) {
        return (urgency == 'd' || urgency == 'u') && URGENCIES.indexOf(urgency) > URGENCIES.indexOf(other);
    }
}
