import java.lang.reflect.InvocationTargetException;
import java.lang.reflect.Method;
import java.util.Objects;
import java.util.TreeMap;

/** Compares answers with the due ones, and tells and counts those that differ. */
final class Due {
    /** A call of the exchange; what it answers, or what it throws, is looked at. */
    interface Call {
        Object make();
    }

    private int looked = 0;
    private int wrong = 0;
    private String test = "";

    /** The answer of a call: its value, or the full name of what it throws. */
    static Object answerOf(Call call) {
        try {
            return call.make();
        } catch (RuntimeException thrown) {
            return "throws " + thrown.getClass().getName();
        }
    }

    void is(String what, Object want, Call call) {
        same(what, want, answerOf(call));
    }

    void same(String what, Object want, Object got) {
        looked++;
        if (!Objects.equals(want, got)) {
            wrong++;
            System.out.println(test + what + ": answered " + got + ", due is " + want);
        }
    }

    void fails(String what, Class<? extends RuntimeException> want, Call call) {
        same(what, "throws " + want.getName(), answerOf(call));
    }

    /** A call that throws must answer afterwards to everything as it did before. */
    void failsAndKeeps(FoghornExchange x, String what, Class<? extends RuntimeException> want, Call call) {
        String before = Snapshot.of(x);
        fails(what, want, call);
        same(what + " changes nothing", before, Snapshot.of(x));
    }

    /**
     * Runs each method of an object that is named after one of these promises, so that none can be
     * forgotten; a promise without such a method is wrong.
     */
    void runPromises(Object tests, int first, int last) {
        TreeMap<String, Method> methods = new TreeMap<>();
        for (Method method : tests.getClass().getDeclaredMethods()) {
            if (method.getName().startsWith("promise")) {
                methods.put(method.getName(), method);
            }
        }
        for (int promise = first; promise <= last; promise++) {
            int found = 0;
            for (Method method : methods.values()) {
                if (method.getName().matches("promise" + promise + "\\D.*")) {
                    found++;
                    runOne(tests, method);
                }
            }
            same("promise " + promise + " has a test", true, found > 0);
        }
    }

    private void runOne(Object tests, Method method) {
        test = method.getName() + ": ";
        int before = looked;
        try {
            method.invoke(tests);
        } catch (InvocationTargetException stopped) {
            same("runs to its end", "no exception", stopped.getCause());
        } catch (IllegalAccessException refused) {
            throw new IllegalStateException(method.getName(), refused);
        }
        same("looks at answers", true, looked > before);
        test = "";
    }

    int wrong() {
        return wrong;
    }

    /** Ends the program of a test: with 1 if an answer was wrong or none was looked at. */
    void close(String name) {
        System.out.println(name + ": " + looked + " answers looked at, " + wrong + " wrong");
        if (wrong > 0 || looked == 0) {
            System.exit(1);
        }
    }
}
