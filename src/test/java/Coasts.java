/** Exchanges from which the tests start. */
final class Coasts {
    private Coasts() {
    }

    /** Stations at these places, each with the same reach. */
    static FoghornExchange at(int reach, int... places) {
        FoghornExchange x = new FoghornExchange();
        for (int place : places) {
            x.addStation(place, reach);
        }
        return x;
    }

    /** Ten stations close together, so that each hears each other one. */
    static FoghornExchange harbour() {
        return at(100, 0, 1, 2, 3, 4, 5, 6, 7, 8, 9);
    }

    /** A coast of two stations out of each other's reach, where calls are placed but none begins. */
    static FoghornExchange apart() {
        return at(10, 0, 300);
    }

    /** Places calls that wait for ever, for all that this exchange of two stations does. */
    static void placeWaiting(FoghornExchange x, int count) {
        for (int call = 0; call < count; call++) {
            x.call(0, 1, 'r', 1);
        }
    }

    /** The kinds and numbers of the latest entries of the log, the oldest of them first. */
    static String latest(FoghornExchange x, int count) {
        StringBuilder text = new StringBuilder();
        for (int rank = count - 1; rank >= 0; rank--) {
            text.append(x.logKind(rank)).append(x.logNumber(rank)).append(' ');
        }
        return text.toString().trim();
    }

    /** The numbers of the calls in the line. */
    static String line(FoghornExchange x) {
        StringBuilder text = new StringBuilder();
        for (int rank = 0; rank < x.waiting(); rank++) {
            text.append(x.inLine(rank)).append(' ');
        }
        return text.toString().trim();
    }

    /** The calls on the channels 0, 1 and 2, '-' for a channel that is free. */
    static String speakers(FoghornExchange x) {
        StringBuilder text = new StringBuilder();
        for (int channel = 0; channel < 3; channel++) {
            int asked = channel;
            Object answer = Due.answerOf(() -> x.speakerOn(asked));
            text.append(answer instanceof Integer ? answer : "-").append(' ');
        }
        return text.toString().trim();
    }

    /** The way between two stations, and '-' if there is none. */
    static String way(FoghornExchange x, int from, int to) {
        StringBuilder text = new StringBuilder();
        for (int index = 0; index <= 10; index++) {
            int asked = index;
            Object answer = Due.answerOf(() -> x.onWay(from, to, asked));
            if (!(answer instanceof Integer)) {
                break;
            }
            text.append(answer).append(' ');
        }
        return text.length() == 0 ? "-" : text.toString().trim();
    }
}
