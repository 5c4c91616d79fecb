import java.util.Arrays;

/**
 * Long runs of drawn calls, each made on the exchange and on the model, whose answers must be the
 * same; every few calls, and after each call that throws, everything that both answer is compared.
 */
public final class ModelTest {
    private static final int RUNS = 240;
    private static final int CALLS = 512;
    private static final int CALLS_BETWEEN_SNAPSHOTS = 16;
    private static final int[] ODD_NUMBERS = {Integer.MIN_VALUE, Integer.MIN_VALUE + 1, -301, -1, 0, 1, 2, 3, 4, 5,
        9, 10, 11, 23, 24, 30, 31, 59, 60, 61, 100, 101, 149, 150, 300, 301, Integer.MAX_VALUE - 1, Integer.MAX_VALUE};
    private static final char[] ODD_SIGNS = {'d', 'u', 's', 'r', 'D', 'w', 'e', (char) 0, (char) 255, (char) 65535};

    private final Due due = new Due();
    private long seed;
    private int run;
    /** How this run draws: how its stations lie, how urgent and how long its calls are, how fast time goes. */
    private int coast;
    private boolean isUrgent;
    private int mostMinutes;
    private int mostToPass;
    private int callsOf100;
    private int mostWaiting;
    private FoghornExchange exchange;
    private Face real;
    private Face model;
    private PlainExchange plain;

    public static void main(String[] args) {
        ModelTest test = new ModelTest();
        for (test.run = 0; test.run < RUNS && test.due.wrong() == 0; test.run++) {
            test.makeRun();
        }
        test.due.close("ModelTest");
    }

    /** Numbers drawn by a fixed rule, so that each run is the same each time. */
    private int draw(int bound) {
        seed = seed * 6364136223846793005L + 1442695040888963407L;
        return (int) ((seed >>> 33) % bound);
    }

    private void makeRun() {
        seed = run;
        coast = draw(5);
        isUrgent = draw(3) == 0;
        mostMinutes = draw(2) == 0 ? 3 : 14;
        mostToPass = 1 + draw(10);
        callsOf100 = 30 + draw(30);
        mostWaiting = 2 + draw(30);
        exchange = new FoghornExchange();
        plain = new PlainExchange();
        real = new Face(exchange);
        model = new Face(plain);
        int first = draw(11);
        for (int station = 0; station < first; station++) {
            ask("addStation", place(), reach());
        }
        for (int call = 0; call < CALLS && due.wrong() == 0; call++) {
            drawCall();
            if (call % CALLS_BETWEEN_SNAPSHOTS == 0) {
                due.same("run " + run + ", call " + call + ", all answers",
                        Snapshot.of(plain), Snapshot.of(exchange));
            }
        }
    }

    private void ask(String name, Object... arguments) {
        String what = "run " + run + ", " + name + Arrays.toString(arguments);
        Object want = model.answer(name, arguments);
        if (want instanceof String && draw(16) == 0) {
            String before = Snapshot.of(exchange);
            due.same(what, want, real.answer(name, arguments));
            due.same(what + " changes nothing", before, Snapshot.of(exchange));
        } else {
            due.same(what, want, real.answer(name, arguments));
        }
    }

    private int place() {
        return coast == 0 ? draw(301) : draw(coast * 60 + 1);
    }

    private int reach() {
        return coast == 3 ? 1 + draw(100) : 20 + draw(60);
    }

    /** Mostly a station that exists, now and then any number. */
    private int station() {
        return draw(24) == 0 ? odd() : draw(Math.max(1, plain.stations()));
    }

    private int call() {
        return draw(24) == 0 ? odd() : Math.max(0, plain.calls() - 1 - draw(1 + draw(26)));
    }

    private int odd() {
        return ODD_NUMBERS[draw(ODD_NUMBERS.length)];
    }

    private char urgency() {
        if (draw(24) == 0) {
            return ODD_SIGNS[draw(ODD_SIGNS.length)];
        }
        return isUrgent ? "duuuus".charAt(draw(6)) : "dusr".charAt(draw(4));
    }

    private void drawCall() {
        // A line full of calls that have no way leaves too little to happen, so some of them are cancelled.
        if (plain.waiting() > mostWaiting && draw(3) == 0) {
            ask("cancel", plain.inLine(draw(plain.waiting())));
            return;
        }
        if (draw(100) < callsOf100) {
            ask("call", station(), station(), urgency(), draw(24) == 0 ? odd() : 1 + draw(mostMinutes));
            return;
        }
        int kind = draw(100);
        if (kind < 36) {
            ask("pass", draw(24) == 0 ? odd() : 1 + draw(mostToPass));
        } else if (kind < 46) {
            ask("raise", call(), urgency());
        } else if (kind < 54) {
            ask("cancel", call());
        } else if (kind < 64) {
            ask("setOn", station(), draw(4) != 0);
        } else if (kind < 72) {
            ask("move", station(), draw(8) == 0 ? odd() : place());
        } else if (kind < 76) {
            ask("addStation", draw(8) == 0 ? odd() : place(), draw(8) == 0 ? odd() : reach());
        } else if (kind < 80) {
            ask("setWatch", station(), draw(3) == 0 ? odd() : 5 + draw(20));
        } else if (kind < 84) {
            ask("report", station());
        } else {
            drawQuestion();
        }
    }

    private void drawQuestion() {
        String[] ofStation = {"placeOf", "isOn", "busyWith", "sinceReport", "missed"};
        String[] ofPair = {"hears", "relays", "relaysByJoining"};
        String[] ofCall = {"stateOf", "urgencyOf", "leftOf", "channelOf", "interruptions"};
        String[] ofRank = {"inLine", "inLineByCounting", "logTime", "logKind", "logNumber"};
        String[] ofChannel = {"speakerOn", "channelShare"};
        ask(ofStation[draw(ofStation.length)], station());
        ask(ofPair[draw(ofPair.length)], station(), station());
        ask("onWay", station(), station(), draw(8) == 0 ? odd() : draw(6));
        ask(ofCall[draw(ofCall.length)], call());
        ask(ofRank[draw(ofRank.length)], draw(8) == 0 ? odd() : draw(26));
        ask(ofChannel[draw(ofChannel.length)], draw(8) == 0 ? odd() : draw(3));
        ask("isInOrder");
    }
}
