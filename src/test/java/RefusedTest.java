import java.lang.reflect.Method;
import java.util.List;
import java.util.TreeSet;

/**
 * "A method that throws an exception changes nothing. If several exceptions apply, the one that is
 * documented first is thrown." Each refused call is made on an exchange of its own, in a state that is
 * empty, busy or full; it must throw what is due, and whatever is called later must answer as it does
 * on a twin on which the refused call was not made.
 */
public final class RefusedTest {
    private static final int MOST_CALLS_OF_AN_OBJECT = 512;
    private static final int COUNTS_ASKED_OF_THE_TWIN = 6;

    private static final String TEN_STATIONS = "addStation 0 100, addStation 1 100, addStation 2 100,"
            + "addStation 3 100, addStation 4 100, addStation 5 100, addStation 6 100, addStation 7 100,"
            + "addStation 8 100, addStation 9 100,";

    /** Call 0 has ended, 1 and 2 speak, 3 and 4 wait, and 5 was cancelled; station 5 is off. */
    private static final String BUSY = "addStation 0 50, addStation 50 50, addStation 100 50, addStation 150 60,"
            + "addStation 200 60, addStation 300 20, setOn 5 false, setWatch 1 9, setWatch 2 20, setWatch 5 7,"
            + "call 0 2 'r' 2, pass 3, call 0 2 'u' 9, call 3 4 's' 8, call 1 3 's' 6, call 0 5 'd' 5,"
            + "call 4 3 'r' 7, cancel 5, pass 1,";

    /** What brings out the state of an exchange, behind all questions. */
    private static final String LATER = "setWatch 0 5, setWatch 1 6, setWatch 2 7, setWatch 5 8, report 0, pass 3,"
            + "call 0 1 'u' 2, call 3 4 'd' 3, raise 3 'u', raise 4 'd', pass 4, move 5 240, setOn 5 true,"
            + "addStation 250 60, pass 6, cancel 4, setOn 1 false, call 2 3 'd' 2, setOn 1 true, pass 10,";

    private static final String NO_INDEX = "IndexOutOfBoundsException";
    private static final String NO_ARGUMENT = "IllegalArgumentException";
    private static final String NO_STATE = "IllegalStateException";
    private static final String NO_ELEMENT = "NoSuchElementException";
    private static final String NO_QUOTIENT = "ArithmeticException";

    private final Due due = new Due();
    private final TreeSet<String> seen = new TreeSet<>();

    public static void main(String[] args) {
        RefusedTest test = new RefusedTest();
        test.empty();
        test.busyNoIndex();
        test.busyNoArgument();
        test.busyNoState();
        test.busyNoElement();
        test.busySeveralApply();
        test.noTime();
        test.tenStations();
        test.fullLine();
        test.fullLineThatWaits();
        test.allCallsPlaced();
        test.eachExceptionOfTheFaceWasThrown();
        test.due.close("RefusedTest");
    }

    /** Promises 2 to 38 where nothing is yet. */
    private void empty() {
        refused("", NO_INDEX, "move 0 5, setOn 0 true, setOn 0 false, placeOf 0, isOn 0, hears 0 1, hears 0 0,"
                + "busyWith 0, relays 0 1, relays 0 0, relaysByJoining 0 1, onWay 0 1 0, call 0 1 'r' 5,"
                + "call 0 0 'x' 0, speakerOn 3, speakerOn -1, setWatch 0 5, setWatch 0 4, report 0, sinceReport 0,"
                + "missed 0, channelShare 3, channelShare -1, move 0 301");
        refused("", NO_ARGUMENT, "addStation -1 50, addStation 301 50, addStation 50 0, addStation 50 101,"
                + "addStation least greatest, pass 0, pass 11, pass -1, pass least, pass greatest");
        refused("", NO_ELEMENT, "cancel 0, raise 0 'd', raise 0 'x', stateOf 0, urgencyOf 0, leftOf 0, channelOf 0,"
                + "interruptions 0, speakerOn 0, speakerOn 1, speakerOn 2, inLine 0, inLineByCounting 0, inLine -1,"
                + "inLineByCounting -1, logTime 0, logKind 0, logNumber 0, logTime -1, logKind -1, logNumber -1");
        refused("", NO_QUOTIENT, "meanWait, channelShare 0, channelShare 1, channelShare 2");
    }

    /** Promises 3, 4, 6 to 13, 21, 28 to 31 and 38: stations and channels that there are not. */
    private void busyNoIndex() {
        for (String station : new String[] {"-1", "6", "least", "greatest"}) {
            String texts = "move S 5, setOn S true, setOn S false, placeOf S, isOn S, hears S 0, hears 0 S, busyWith S,"
                    + "relays S 0, relays 0 S, relaysByJoining S 0, relaysByJoining 0 S, onWay S 0 0, onWay 0 S 0,"
                    + "call S 0 'd' 5, call 0 S 'd' 5, setWatch S 5, setWatch S 0, report S, sinceReport S, missed S";
            refused(BUSY, NO_INDEX, texts.replace("S", station));
        }
        for (String channel : new String[] {"-1", "3", "least", "greatest"}) {
            refused(BUSY, NO_INDEX, "speakerOn C, channelShare C".replace("C", channel));
        }
    }

    /** Promises 2, 3, 8, 10 to 13, 15, 26 and 28: arguments that are out of range, or the same. */
    private void busyNoArgument() {
        refused(BUSY, NO_ARGUMENT, "addStation -1 50, addStation 301 50, addStation 50 0, addStation 50 101,"
                + "addStation 300 greatest, addStation 300 least, move 1 -1, move 1 301, move 0 least, move 5 greatest,"
                + "hears 0 0, hears 5 5, relays 1 1, relaysByJoining 1 1, onWay 1 1 0, call 0 0 'd' 5, call 5 5 'd' 5,"
                + "call 3 4 'x' 5, call 3 4 'D' 5, call 3 4 'e' 5, call 3 4 'c' 5, call 3 4 'd' 0, call 3 4 'd' 31,"
                + "call 3 4 'd' -1, call 3 4 'd' least, call 3 4 'd' greatest, raise 3 'x', raise 3 'r', raise 2 'r',"
                + "raise 2 'x', pass 0, pass 11, pass -1, pass least, pass greatest, setWatch 1 4, setWatch 1 61,"
                + "setWatch 1 -1, setWatch 1 1, setWatch 0 4, setWatch 5 61, setWatch 1 least, setWatch 1 greatest");
    }

    /** Promises 14, 15, 19, 29 and 30: calls and stations that are not in the state for it. */
    private void busyNoState() {
        refused(BUSY, NO_STATE, "cancel 0, cancel 5, raise 0 's', raise 0 'd', raise 5 'd', raise 1 'u', raise 1 's',"
                + "raise 2 's', raise 3 's', raise 4 'd', raise 4 'u', raise 4 's', channelOf 0, channelOf 3,"
                + "channelOf 4, channelOf 5, report 0, report 3, report 5, sinceReport 0, sinceReport 4");
    }

    /** Promises 9 to 12, 14 to 21, 24, 25 and 33 to 35: what is not there. */
    private void busyNoElement() {
        refused(BUSY, NO_ELEMENT, "busyWith 5, relays 0 5, relays 5 0, relaysByJoining 0 5, relaysByJoining 5 0,"
                + "onWay 0 5 0, onWay 0 2 3, onWay 0 2 -1, onWay 0 1 2, onWay 0 2 least, onWay 0 2 greatest,"
                + "speakerOn 2, inLine 2, inLine -1, inLine least, inLine greatest, inLineByCounting 2,"
                + "inLineByCounting -1, inLineByCounting least, inLineByCounting greatest");
        for (String call : new String[] {"-1", "6", "149", "150", "least", "greatest"}) {
            String texts = "cancel C, raise C 'd', stateOf C, urgencyOf C, leftOf C, channelOf C, interruptions C";
            refused(BUSY, NO_ELEMENT, texts.replace("C", call));
        }
        for (String rank : new String[] {"-1", "59", "60", "least", "greatest"}) {
            refused(BUSY, NO_ELEMENT, "logTime R, logKind R, logNumber R".replace("R", rank));
        }
    }

    /** Where several exceptions apply, the one that is documented first. */
    private void busySeveralApply() {
        refused(BUSY, NO_INDEX, "move 6 301, move -1 -1, hears 6 6, relays 6 6, relaysByJoining -1 -1, onWay 6 6 -1,"
                + "onWay 0 6 9, call 6 6 'd' 5, call 6 0 'x' 5, call 0 6 'd' 0, call -1 -1 'x' 31, setWatch 6 4,"
                + "setWatch -1 61");
        refused(BUSY, NO_ARGUMENT, "onWay 1 1 -1, onWay 5 5 2, relays 5 5, relaysByJoining 5 5, raise 0 'x', raise 5 'r',"
                + "raise 1 'r', raise 4 'r'");
        refused(BUSY, NO_ELEMENT, "raise 6 'x', raise -1 'r', onWay 0 5 -1, onWay 5 0 9");
    }

    /** Promises 37 and 38 at the time 0: calls wait and speak, but none has begun, or no minute has passed. */
    private void noTime() {
        String waits = "addStation 0 10, addStation 300 10, call 0 1 'd' 5,";
        refused(waits, NO_QUOTIENT, "meanWait, channelShare 0, channelShare 2");
        refused(waits + "pass 9, cancel 0,", NO_QUOTIENT, "meanWait");
        String speaks = "addStation 0 10, addStation 10 10, call 0 1 'd' 5,";
        refused(speaks, NO_QUOTIENT, "channelShare 0, channelShare 1, channelShare 2");
        refused(speaks, NO_INDEX, "channelShare 3, channelShare -1");
    }

    /** Promise 2 with ten stations. */
    private void tenStations() {
        refused(TEN_STATIONS, NO_STATE, "addStation 0 1, addStation 300 100, addStation 150 50");
        refused(TEN_STATIONS, NO_ARGUMENT, "addStation -1 1, addStation 301 1, addStation 0 0, addStation 0 101");
        refused(TEN_STATIONS, NO_INDEX, "move 10 5, setOn 10 false, placeOf 10, isOn 10, hears 0 10, busyWith 10,"
                + "relays 10 0, relaysByJoining 0 10, onWay 0 10 0, call 9 10 'd' 5, setWatch 10 5, report 10,"
                + "sinceReport 10, missed 10");
    }

    /** Promise 13 with three calls that speak and 21 that wait; promises 24 and 25 behind the last of these. */
    private void fullLine() {
        String full = TEN_STATIONS + "call 0 1 'd' 3, call 2 3 'd' 6, call 4 5 'u' 9," + "call 0 2 'r' 1,".repeat(21);
        fullOfCalls(full);
        refused(full, NO_ELEMENT, "inLine 21, inLine 24, inLineByCounting 21, inLineByCounting 24, cancel 24,"
                + "raise 24 'd', stateOf 24, busyWith 9");
    }

    /** The same with 24 calls that wait. */
    private void fullLineThatWaits() {
        String full = TEN_STATIONS + "setOn 0 false," + "call 0 2 's' 1, call 2 0 'd' 2,".repeat(12);
        fullOfCalls(full);
        refused(full, NO_ELEMENT, "inLine 24, inLineByCounting 24, speakerOn 0, busyWith 2");
        refused(full, NO_QUOTIENT, "meanWait");
    }

    private void fullOfCalls(String full) {
        refused(full, NO_STATE, "call 8 9 'd' 1, call 9 8 'r' 30");
        refused(full, NO_ARGUMENT, "call 8 8 'd' 1, call 8 9 'x' 1, call 8 9 'd' 0, call 8 9 'd' 31");
        refused(full, NO_INDEX, "call 8 10 'd' 1, call -1 9 'd' 1, call 10 10 'x' 0");
    }

    /** Promise 13 with 150 calls of which none, and of which some wait or speak; the log is full, too. */
    private void allCallsPlaced() {
        String pairs = "addStation 0 100, addStation 1 100, addStation 100 100, addStation 101 100,"
                + "addStation 200 100, addStation 201 100, setWatch 1 30,";
        String six = "call 0 1 'd' 1, call 2 3 'u' 1, call 4 5 'd' 1, call 1 0 'u' 1, call 3 2 'd' 1, call 5 4 'u' 1,";
        String full = pairs + (six + six + six + six + "pass 10,").repeat(6) + six;
        for (String all : new String[] {full, full + "pass 2,"}) {
            refused(all, NO_STATE, "call 0 1 'd' 1, call 1 0 'r' 30");
            refused(all, NO_ARGUMENT, "call 0 0 'd' 1, call 0 1 'x' 1, call 0 1 'd' 0, call 0 1 'd' 31");
            refused(all, NO_INDEX, "call 0 6 'd' 1, call -1 0 'd' 1");
            refused(all, NO_ELEMENT, "cancel 150, raise 150 'd', stateOf 150, leftOf -1, logTime 60, logKind 60,"
                    + "logNumber 60, logTime -1");
        }
        refused(full + "pass 2,", NO_STATE, "cancel 0, cancel 149, raise 149 'd', channelOf 149");
    }

    /** Makes each of these calls on an exchange of its own, each of which is led into the same state. */
    private void refused(String state, String exception, String calls) {
        for (Script.Ask refused : Script.of(calls)) {
            String name = "promise " + FaceTest.promiseOf(refused.name) + ", " + refused;
            Face touched = new Face(new FoghornExchange());
            Face twin = new Face(new FoghornExchange());
            int made = COUNTS_ASKED_OF_THE_TWIN + compare(name, touched, twin, Script.of(state));
            due.same(name + " is refused", "throws " + fullName(exception),
                    touched.answer(refused.name, refused.arguments));
            seen.add(refused.name + " " + exception);
            made += 1 + compare(name, touched, twin, questions(twin));
            made += compare(name, touched, twin, Script.of(LATER));
            made += compare(name, touched, twin, questions(twin));
            due.same("no more calls than an object is used for", true, made <= MOST_CALLS_OF_AN_OBJECT);
        }
    }

    private static String fullName(String exception) {
        return (exception.equals(NO_ELEMENT) ? "java.util." : "java.lang.") + exception;
    }

    private int compare(String name, Face touched, Face twin, List<Script.Ask> asks) {
        for (Script.Ask ask : asks) {
            due.same(name + " has changed " + ask, twin.answer(ask.name, ask.arguments),
                    touched.answer(ask.name, ask.arguments));
        }
        return asks.size();
    }

    /** What an exchange answers, without the older calls and entries, so that it is called not too often. */
    private static List<Script.Ask> questions(Face twin) {
        StringBuilder text = new StringBuilder("stations, calls, waiting, time, logged, waited, meanWait, isInOrder,"
                + "speakerOn 0, speakerOn 1, speakerOn 2, channelShare 0, channelShare 1, channelShare 2,");
        int stations = (Integer) twin.answer("stations");
        for (int station = 0; station < stations; station++) {
            text.append("placeOf S, isOn S, busyWith S, sinceReport S, missed S,".replace("S", "" + station));
            text.append(station > 0 ? "hears 0 S, relays S 0,".replace("S", "" + station) : "");
        }
        int calls = (Integer) twin.answer("calls");
        for (int call = Math.max(0, calls - 6); call < calls; call++) {
            text.append("stateOf C, urgencyOf C, leftOf C, interruptions C,".replace("C", "" + call));
        }
        int waiting = (Integer) twin.answer("waiting");
        for (int rank = 0; rank < waiting; rank++) {
            text.append("inLine ").append(rank).append(',');
        }
        for (int rank = 0; rank < 8; rank++) {
            text.append("logTime R, logKind R, logNumber R,".replace("R", "" + rank));
        }
        return Script.of(text.toString());
    }

    /** Whatever exception the face declares for a method, one of the calls above was refused with it. */
    private void eachExceptionOfTheFaceWasThrown() {
        TreeSet<String> declared = new TreeSet<>();
        for (Method method : FoghornExchange.class.getMethods()) {
            if (method.getDeclaringClass() == FoghornExchange.class) {
                for (Class<?> exception : method.getExceptionTypes()) {
                    declared.add(method.getName() + " " + exception.getSimpleName());
                }
            }
        }
        due.same("the exceptions that were thrown", declared, seen);
    }
}
