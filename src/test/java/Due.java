import java.util.Objects;

/** Compares answers with the due ones, and tells and counts those that differ. */
final class Due {
    /** A call of the exchange; what it answers, or what it throws, is looked at. */
    interface Call {
        Object make();
    }

    private int looked = 0;
    private int wrong = 0;

    /** The answer of a call: its value, or the full name of what it throws. */
    static Object answerOf(Call call) {
        try {
            return call.make();
        } catch (RuntimeException thrown) {
            return "throws " + thrown.getClass().getName();
        }
    }

    void is(String what, Object want, Call call) {
        same(what, want, answerOf(call));
    }

    void same(String what, Object want, Object got) {
        looked++;
        if (!Objects.equals(want, got)) {
            wrong++;
            System.out.println(what + ": answered " + got + ", due is " + want);
        }
    }

    void fails(String what, Class<? extends RuntimeException> want, Call call) {
        same(what, "throws " + want.getName(), answerOf(call));
    }

    /** A call that throws must answer afterwards to everything as it did before. */
    void failsAndKeeps(FoghornExchange x, String what, Class<? extends RuntimeException> want, Call call) {
        String before = Snapshot.of(x);
        fails(what, want, call);
        same(what + " changes nothing", before, Snapshot.of(x));
    }

    int wrong() {
        return wrong;
    }

    /** Ends the program of a test: with 1 if an answer was wrong or none was looked at. */
    void close(String name) {
        System.out.println(name + ": " + looked + " answers looked at, " + wrong + " wrong");
        if (wrong > 0 || looked == 0) {
            System.exit(1);
        }
    }
}
