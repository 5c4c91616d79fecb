/** Everything that an exchange answers without changing, as a text with one answer a line. */
final class Snapshot {
    private static final int STATIONS = 11;
    private static final int CHANNELS = 4;
    private static final int ENTRIES = 61;

    private final Face face;
    private final StringBuilder text = new StringBuilder();

    private Snapshot(Object exchange) {
        face = new Face(exchange);
    }

    static String of(Object exchange) {
        Snapshot snapshot = new Snapshot(exchange);
        snapshot.totals();
        snapshot.stations();
        snapshot.calls();
        snapshot.log();
        return snapshot.text.toString();
    }

    private void ask(String name, Object... arguments) {
        text.append(name).append(java.util.Arrays.toString(arguments)).append(' ');
        text.append(face.answer(name, arguments)).append('\n');
    }

    private void totals() {
        for (String name : new String[] {"stations", "calls", "waiting", "time", "logged", "waited",
                "meanWait", "isInOrder"}) {
            ask(name);
        }
        for (int channel = -1; channel < CHANNELS; channel++) {
            ask("speakerOn", channel);
            ask("channelShare", channel);
        }
    }

    private void stations() {
        int shown = Math.min(STATIONS, (Integer) face.answer("stations") + 1);
        for (int station = -1; station < shown; station++) {
            for (String name : new String[] {"placeOf", "isOn", "busyWith", "sinceReport", "missed"}) {
                ask(name, station);
            }
            for (int other = -1; other < shown; other++) {
                pair(station, other);
            }
        }
    }

    private void pair(int from, int to) {
        ask("hears", from, to);
        ask("relays", from, to);
        ask("relaysByJoining", from, to);
        for (int index = -1; index < STATIONS; index++) {
            Object answer = face.answer("onWay", from, to, index);
            text.append("onWay ").append(from).append(' ').append(to).append(' ').append(index);
            text.append(' ').append(answer).append('\n');
            if (index >= 0 && answer instanceof String) {
                break;
            }
        }
    }

    private void calls() {
        int placed = (Integer) face.answer("calls");
        for (int call = -1; call <= placed; call++) {
            for (String name : new String[] {"stateOf", "urgencyOf", "leftOf", "channelOf", "interruptions"}) {
                ask(name, call);
            }
        }
        int waiting = (Integer) face.answer("waiting");
        for (int rank = -1; rank <= waiting; rank++) {
            ask("inLine", rank);
            ask("inLineByCounting", rank);
        }
    }

    private void log() {
        int kept = Math.min(ENTRIES, (Integer) face.answer("logged") + 1);
        for (int rank = -1; rank < kept; rank++) {
            ask("logTime", rank);
            ask("logKind", rank);
            ask("logNumber", rank);
        }
    }
}
