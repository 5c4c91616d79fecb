import java.util.NoSuchElementException;

/**
 * A radio exchange on a coast: stations call each other on three channels, calls go over relays
 * where a station is out of reach, urgent calls break in on others, and watches are kept.
 */
public final class FoghornExchange {
    private static final int MOST_STATIONS = 10;
    private static final int LAST_PLACE = 300;
    private static final int MOST_REACH = 100;
    private static final int MOST_CALLS = 150;
    private static final int MOST_OPEN_CALLS = 24;
    private static final int MOST_CALL_MINUTES = 30;
    private static final int MOST_MINUTES_TO_PASS = 10;
    private static final int LEAST_WATCH = 5;
    private static final int MOST_WATCH = 60;
    private static final int WATCH_CALL_MINUTES = 1;
    private static final int CHANNELS = 3;
    private static final int KEPT_ENTRIES = 60;

    /** More steps than any way has. Twice this number still is a number, so such ways can be joined. */
    private static final int NO_WAY = 1000;
    private static final int NO_CHANNEL = -1;
    private static final int NO_STATION = -1;

    /** Far above the 24 turns that one walk through the line can take: each open call has one at most. */
    private static final int MOST_TURNS = 1000;

    private static final char DISTRESS = 'd';
    private static final char URGENT = 'u';
    private static final char SAFETY = 's';
    private static final char ROUTINE = 'r';

    /** The weights of the urgencies; a greater urgency has a greater weight. */
    private static final int NO_URGENCY = -1;
    private static final int ROUTINE_WEIGHT = 0;
    private static final int SAFETY_WEIGHT = 1;
    private static final int URGENT_WEIGHT = 2;
    private static final int DISTRESS_WEIGHT = 3;

    private static final char WAITS = 'w';
    private static final char SPEAKS = 's';
    private static final char HAS_ENDED = 'e';
    private static final char WAS_CANCELLED = 'c';

    private static final char LOG_PLACED = 'p';
    private static final char LOG_BEGINS = 'b';
    private static final char LOG_INTERRUPTED = 'i';
    private static final char LOG_ENDS = 'e';
    private static final char LOG_CANCELLED = 'c';
    private static final char LOG_MISSED = 'm';

    private final Coast coast;
    private final Line line;
    private final Channels channels;
    private final LogBook log;
    private final RadioCall[] placed;
    private int placedCount;
    private int now;
    private int beginnings;
    private long minutesWaited;
    private long minutesToFirstBeginnings;
    private int callsThatHaveBegun;

    public FoghornExchange() {
        coast = new Coast();
        line = new Line();
        channels = new Channels();
        log = new LogBook();
        placed = new RadioCall[MOST_CALLS];
    }

    // Stations.

    public int addStation(int place, int reach) throws IllegalArgumentException, IllegalStateException {
        if (!isPlace(place) || reach < 1 || reach > MOST_REACH) {
            throw new IllegalArgumentException("place or reach out of range");
        }
        if (coast.isFull()) {
            throw new IllegalStateException("no more stations");
        }
        int number = coast.add(place, reach);
        letSpeak();
        return number;
    }

    public int move(int station, int place) throws IndexOutOfBoundsException, IllegalArgumentException {
        Station moved = coast.numbered(station);
        if (!isPlace(place)) {
            throw new IllegalArgumentException("place out of range");
        }
        int before = moved.place;
        moved.place = place;
        letSpeak();
        return before;
    }

    public boolean setOn(int station, boolean isOn) throws IndexOutOfBoundsException {
        Station changed = coast.numbered(station);
        boolean before = changed.on;
        changed.on = isOn;
        RadioCall holder = channels.holderOf(station);
        if (!isOn && holder != null) {
            interrupt(holder);
        }
        letSpeak();
        return before;
    }

    public int stations() {
        return coast.size;
    }

    public int placeOf(int station) throws IndexOutOfBoundsException {
        return coast.numbered(station).place;
    }

    public boolean isOn(int station) throws IndexOutOfBoundsException {
        return coast.numbered(station).on;
    }

    public boolean hears(int station, int other) throws IndexOutOfBoundsException, IllegalArgumentException {
        checkPair(station, other);
        return coast.areLinked(station, other);
    }

    public int busyWith(int station) throws IndexOutOfBoundsException, NoSuchElementException {
        coast.numbered(station);
        return existing(channels.holderOf(station)).number;
    }

    public int relays(int from, int to)
            throws IndexOutOfBoundsException, IllegalArgumentException, NoSuchElementException {
        checkPair(from, to);
        return relaysOfSteps(coast.stepsBetween(from, to));
    }

    public int relaysByJoining(int from, int to)
            throws IndexOutOfBoundsException, IllegalArgumentException, NoSuchElementException {
        checkPair(from, to);
        coast.joinWays();
        return relaysOfSteps(coast.joinedSteps(from, to));
    }

    public int onWay(int from, int to, int index)
            throws IndexOutOfBoundsException, IllegalArgumentException, NoSuchElementException {
        checkPair(from, to);
        int length = coast.findWay(from, to);
        if (index < 0 || index >= length) {
            throw new NoSuchElementException("no way, or no such index on it");
        }
        return coast.stationOfWay(index);
    }

    // Calls.

    public int call(int from, int to, char urgency, int minutes)
            throws IndexOutOfBoundsException, IllegalArgumentException, IllegalStateException {
        checkPair(from, to);
        if (weightOf(urgency) == NO_URGENCY || minutes < 1 || minutes > MOST_CALL_MINUTES) {
            throw new IllegalArgumentException("urgency or minutes not valid");
        }
        if (!hasRoomForACall()) {
            throw new IllegalStateException("no more calls");
        }
        int number = placedCount;
        place(from, to, urgency, minutes);
        letSpeak();
        return number;
    }

    public int cancel(int call) throws NoSuchElementException, IllegalStateException {
        RadioCall cancelled = callNumbered(call);
        if (!cancelled.isOpen()) {
            throw new IllegalStateException("the call neither waits nor speaks");
        }
        if (cancelled.state == SPEAKS) {
            channels.free(cancelled);
        } else {
            line.leave(cancelled);
        }
        cancelled.state = WAS_CANCELLED;
        log.write(now, LOG_CANCELLED, call);
        letSpeak();
        return cancelled.left;
    }

    public char raise(int call, char urgency)
            throws NoSuchElementException, IllegalArgumentException, IllegalStateException {
        RadioCall raised = callNumbered(call);
        int weight = weightOf(urgency);
        // Nothing can be raised to routine: the document lists 'd', 'u' and 's' alone for this call.
        if (weight == NO_URGENCY || weight == ROUTINE_WEIGHT) {
            throw new IllegalArgumentException("no such urgency to raise to");
        }
        if (!raised.isOpen() || raised.weight >= weight) {
            throw new IllegalStateException("the call is not open, or its urgency is not less");
        }
        char before = raised.urgency;
        if (raised.state == WAITS) {
            line.leave(raised);
            raised.setUrgency(urgency);
            line.join(raised);
        } else {
            raised.setUrgency(urgency);
        }
        letSpeak();
        return before;
    }

    public char stateOf(int call) throws NoSuchElementException {
        return callNumbered(call).state;
    }

    public char urgencyOf(int call) throws NoSuchElementException {
        return callNumbered(call).urgency;
    }

    public int leftOf(int call) throws NoSuchElementException {
        return callNumbered(call).left;
    }

    public int channelOf(int call) throws NoSuchElementException, IllegalStateException {
        RadioCall speaker = callNumbered(call);
        if (speaker.state != SPEAKS) {
            throw new IllegalStateException("the call does not speak");
        }
        return speaker.channel;
    }

    public int interruptions(int call) throws NoSuchElementException {
        return callNumbered(call).interruptions;
    }

    public int speakerOn(int channel) throws IndexOutOfBoundsException, NoSuchElementException {
        checkChannel(channel);
        return existing(channels.speaker(channel)).number;
    }

    public int calls() {
        return placedCount;
    }

    public int waiting() {
        return line.size;
    }

    public int inLine(int rank) throws NoSuchElementException {
        return existing(line.at(rank)).number;
    }

    public int inLineByCounting(int rank) throws NoSuchElementException {
        return existing(line.atByCounting(rank)).number;
    }

    // Time and watches.

    public int pass(int minutes) throws IllegalArgumentException {
        if (minutes < 1 || minutes > MOST_MINUTES_TO_PASS) {
            throw new IllegalArgumentException("minutes out of range");
        }
        int ended = 0;
        for (int minute = 0; minute < minutes; minute++) {
            now++;
            minutesWaited += line.size;
            ended += speakAMinute();
            lookAtWatches();
            letSpeak();
        }
        return ended;
    }

    public int time() {
        return now;
    }

    public int setWatch(int station, int minutes) throws IndexOutOfBoundsException, IllegalArgumentException {
        Station watched = coast.numbered(station);
        if (minutes != 0 && (minutes < LEAST_WATCH || minutes > MOST_WATCH)) {
            throw new IllegalArgumentException("minutes neither 0 nor in range");
        }
        int before = watched.watch;
        watched.watch = minutes;
        watched.latestReport = now;
        return before;
    }

    public int report(int station) throws IndexOutOfBoundsException, IllegalStateException {
        Station reporting = coast.numbered(station);
        if (!reporting.on || !reporting.hasWatch()) {
            throw new IllegalStateException("the station is off or has no watch");
        }
        int since = now - reporting.latestReport;
        reporting.latestReport = now;
        return since;
    }

    public int sinceReport(int station) throws IndexOutOfBoundsException, IllegalStateException {
        Station watched = coast.numbered(station);
        if (!watched.hasWatch()) {
            throw new IllegalStateException("the station has no watch");
        }
        return now - watched.latestReport;
    }

    public int missed(int station) throws IndexOutOfBoundsException {
        return coast.numbered(station).missedWatches;
    }

    // Log and totals.

    public int logged() {
        return log.total;
    }

    public int logTime(int rank) throws NoSuchElementException {
        return log.entry(rank).time;
    }

    public char logKind(int rank) throws NoSuchElementException {
        return log.entry(rank).kind;
    }

    public int logNumber(int rank) throws NoSuchElementException {
        return log.entry(rank).number;
    }

    public long waited() {
        return minutesWaited;
    }

    public double meanWait() throws ArithmeticException {
        if (callsThatHaveBegun == 0) {
            throw new ArithmeticException("no call has begun");
        }
        return (double) minutesToFirstBeginnings / (double) callsThatHaveBegun;
    }

    public float channelShare(int channel) throws IndexOutOfBoundsException, ArithmeticException {
        checkChannel(channel);
        if (now == 0) {
            throw new ArithmeticException("no minute has passed");
        }
        return (float) channels.minutesSpoken(channel) / (float) now;
    }

    public boolean isInOrder() {
        return noWaitingCallCanBegin()
                && channels.areAllAllowed()
                && channels.shareNoStation()
                && line.isSameByCounting()
                && coast.isSameByJoining();
    }

    // What the arguments must be.

    private static boolean isPlace(int place) {
        return place >= 0 && place <= LAST_PLACE;
    }

    private void checkPair(int station, int other) {
        coast.numbered(station);
        coast.numbered(other);
        if (station == other) {
            throw new IllegalArgumentException("both stations are the same");
        }
    }

    private static void checkChannel(int channel) {
        if (channel < 0 || channel >= CHANNELS) {
            throw new IndexOutOfBoundsException("no such channel");
        }
    }

    private RadioCall callNumbered(int number) {
        if (number < 0 || number >= placedCount || number >= placed.length) {
            throw new NoSuchElementException("no such call");
        }
        return existing(placed[number]);
    }

    private static RadioCall existing(RadioCall found) {
        if (found == null) {
            throw new NoSuchElementException("no such call");
        }
        return found;
    }

    private static int relaysOfSteps(int steps) {
        if (steps >= NO_WAY) {
            throw new NoSuchElementException("no way");
        }
        return steps - 1;
    }

    private static int weightOf(char urgency) {
        switch (urgency) {
            case DISTRESS:
                return DISTRESS_WEIGHT;
            case URGENT:
                return URGENT_WEIGHT;
            case SAFETY:
                return SAFETY_WEIGHT;
            case ROUTINE:
                return ROUTINE_WEIGHT;
            default:
                return NO_URGENCY;
        }
    }

    // What happens to calls.

    private boolean hasRoomForACall() {
        return placedCount < placed.length && line.size + channels.busyCount() < MOST_OPEN_CALLS;
    }

    /** Places a call, if there is room for it, without letting it begin. */
    private void place(int from, int to, char urgency, int minutes) {
        if (placedCount >= placed.length) {
            return;
        }
        RadioCall call = new RadioCall(placedCount, from, to, minutes, now);
        call.setUrgency(urgency);
        placed[placedCount] = call;
        placedCount++;
        line.join(call);
        log.write(now, LOG_PLACED, call.number);
    }

    /**
     * Goes through the line once. Once is enough: who begins is not more urgent than those who were
     * passed over, so whatever it frees or takes does not help them; and those that it interrupts
     * are less urgent than it, so they come into the line behind the rank that is looked at.
     */
    private void letSpeak() {
        int rank = 0;
        for (int turn = 0; turn < MOST_TURNS; turn++) {
            RadioCall next = line.at(rank);
            if (next == null) {
                return;
            }
            int way = coast.membersOfWay(next.from, next.to);
            if (channels.canTake(next, way)) {
                begin(next, way);
            } else {
                rank++;
            }
        }
    }

    private boolean noWaitingCallCanBegin() {
        for (int rank = 0; rank < line.size; rank++) {
            RadioCall next = line.at(rank);
            if (next != null && channels.canTake(next, coast.membersOfWay(next.from, next.to))) {
                return false;
            }
        }
        return true;
    }

    /** Begins a call that the channels can take. */
    private void begin(RadioCall call, int way) {
        for (int channel = 0; channel < CHANNELS; channel++) {
            RadioCall speaker = channels.speaker(channel);
            if (speaker != null && speaker.sharesStationWith(way)) {
                interrupt(speaker);
            }
        }
        if (channels.freeFor(call) == NO_CHANNEL) {
            RadioCall least = channels.leastUrgentFor(call);
            if (least != null) {
                interrupt(least);
            }
        }
        line.leave(call);
        channels.give(channels.freeFor(call), call);
        call.state = SPEAKS;
        call.way = way;
        call.latestBeginning = beginnings;
        beginnings++;
        countFirstBeginning(call);
        coast.numbered(call.from).latestReport = now;
        log.write(now, LOG_BEGINS, call.number);
    }

    private void countFirstBeginning(RadioCall call) {
        if (!call.hasBegun) {
            call.hasBegun = true;
            callsThatHaveBegun++;
            minutesToFirstBeginnings += now - call.placedAt;
        }
    }

    private void interrupt(RadioCall speaker) {
        channels.free(speaker);
        speaker.state = WAITS;
        speaker.interruptions++;
        line.join(speaker);
        log.write(now, LOG_INTERRUPTED, speaker.number);
    }

    /** Lets the calls that speak use up a minute, and returns how many of them ended. */
    private int speakAMinute() {
        int ended = 0;
        for (int channel = 0; channel < CHANNELS; channel++) {
            RadioCall speaker = channels.speaker(channel);
            if (speaker != null) {
                channels.countMinute(channel);
                speaker.left--;
                if (speaker.left <= 0) {
                    end(speaker);
                    ended++;
                }
            }
        }
        return ended;
    }

    private void end(RadioCall speaker) {
        channels.free(speaker);
        speaker.state = HAS_ENDED;
        log.write(now, LOG_ENDS, speaker.number);
    }

    private void lookAtWatches() {
        for (int station = 0; station < coast.size; station++) {
            Station watched = coast.numbered(station);
            if (watched.missesWatchAt(now)) {
                watched.missedWatches++;
                watched.latestReport = now;
                log.write(now, LOG_MISSED, station);
                if (station != 0 && hasRoomForACall()) {
                    place(0, station, SAFETY, WATCH_CALL_MINUTES);
                }
            }
        }
    }

    /** A station on the coast. */
    private static final class Station {
        int place;
        int reach;
        boolean on;
        int watch;
        int latestReport;
        int missedWatches;

        boolean hasWatch() {
            return watch > 0;
        }

        boolean missesWatchAt(int time) {
            return on && hasWatch() && time - latestReport > watch;
        }

        boolean isLinkedTo(Station other) {
            return on && other.on && Math.abs(place - other.place) <= Math.min(reach, other.reach);
        }
    }

    /** The stations, and the ways between them. */
    private static final class Coast {
        private final Station[] row = new Station[MOST_STATIONS];
        private final int[] stepsToEnd = new int[MOST_STATIONS];
        private final int[] reached = new int[MOST_STATIONS];
        private final int[] way = new int[MOST_STATIONS];
        private final int[][] joined = new int[MOST_STATIONS][MOST_STATIONS];
        int size;

        /** All stations stand in the row from the first, so that none of its places is empty. */
        Coast() {
            for (int number = 0; number < row.length; number++) {
                row[number] = new Station();
            }
        }

        boolean isFull() {
            return size >= row.length;
        }

        /** Adds a station if the coast is not full, and returns its number. */
        int add(int place, int reach) {
            int number = size;
            if (number < row.length) {
                row[number].place = place;
                row[number].reach = reach;
                row[number].on = true;
                size++;
            }
            return number;
        }

        Station numbered(int number) {
            if (number < 0 || number >= size || number >= row.length) {
                throw new IndexOutOfBoundsException("no such station");
            }
            return row[number];
        }

        boolean areLinked(int station, int other) {
            return numbered(station).isLinkedTo(numbered(other));
        }

        int stepsBetween(int from, int to) {
            countStepsTo(to);
            return from >= 0 && from < stepsToEnd.length ? stepsToEnd[from] : NO_WAY;
        }

        /** Counts the steps from each station to the end of a way, the nearest stations first. */
        private void countStepsTo(int end) {
            for (int station = 0; station < stepsToEnd.length; station++) {
                stepsToEnd[station] = station == end ? 0 : NO_WAY;
            }
            reached[0] = end;
            int count = 1;
            for (int next = 0; next < count && next < reached.length; next++) {
                int near = reached[next];
                Station here = numbered(near);
                for (int station = 0; station < size && count < reached.length; station++) {
                    if (stepsToEnd[station] == NO_WAY && here.isLinkedTo(row[station])) {
                        stepsToEnd[station] = stepsToEnd[near] + 1;
                        reached[count] = station;
                        count++;
                    }
                }
            }
        }

        /** Finds the way of a call, and returns how many stations it has, 0 if there is none. */
        int findWay(int from, int to) {
            countStepsTo(to);
            int at = from;
            for (int index = 0; index < way.length; index++) {
                way[index] = at;
                if (at == to) {
                    return index + 1;
                }
                at = nextOnWay(at);
                if (at == NO_STATION) {
                    return 0;
                }
            }
            return 0;
        }

        /**
         * The lowest station one step nearer to the end, so that the way has the lower numbers first;
         * there is none from where no way leads to the end.
         */
        private int nextOnWay(int at) {
            Station here = numbered(at);
            for (int station = 0; station < size; station++) {
                if (stepsToEnd[station] == stepsToEnd[at] - 1 && here.isLinkedTo(row[station])) {
                    return station;
                }
            }
            return NO_STATION;
        }

        /** A station of the way that was found last. */
        int stationOfWay(int index) {
            return index >= 0 && index < way.length ? way[index] : 0;
        }

        /** The set of the stations of a way: a bit for each of them, 0 if there is no way. */
        int membersOfWay(int from, int to) {
            int length = findWay(from, to);
            int members = 0;
            for (int index = 0; index < length && index < way.length; index++) {
                members |= 1 << way[index];
            }
            return members;
        }

        /** Counts the steps between all pairs by joining two ways over each station. */
        void joinWays() {
            for (int from = 0; from < size; from++) {
                for (int to = 0; to < size; to++) {
                    joined[from][to] = directSteps(from, to);
                }
            }
            for (int over = 0; over < size; over++) {
                joinOver(over);
            }
        }

        private int directSteps(int from, int to) {
            if (from == to) {
                return 0;
            }
            return areLinked(from, to) ? 1 : NO_WAY;
        }

        private void joinOver(int over) {
            for (int from = 0; from < size; from++) {
                for (int to = 0; to < size; to++) {
                    joined[from][to] = Math.min(joined[from][to], joined[from][over] + joined[over][to]);
                }
            }
        }

        /** The steps between two stations, as they were when the ways were joined last. */
        int joinedSteps(int from, int to) {
            boolean inside = from >= 0 && from < joined.length && to >= 0 && to < joined.length;
            return inside ? joined[from][to] : NO_WAY;
        }

        boolean isSameByJoining() {
            joinWays();
            for (int to = 0; to < size; to++) {
                countStepsTo(to);
                for (int from = 0; from < size; from++) {
                    if (stepsToEnd[from] != joined[from][to]) {
                        return false;
                    }
                }
            }
            return true;
        }
    }

    /** A call that was placed. */
    private static final class RadioCall {
        final int number;
        final int from;
        final int to;
        final int placedAt;
        char urgency;
        int weight;
        int left;
        char state;
        int channel;
        int way;
        int interruptions;
        int latestBeginning;
        boolean hasBegun;

        RadioCall(int number, int from, int to, int minutes, int placedAt) {
            this.number = number;
            this.from = from;
            this.to = to;
            this.left = minutes;
            this.placedAt = placedAt;
            this.state = WAITS;
            this.channel = NO_CHANNEL;
        }

        void setUrgency(char urgency) {
            this.urgency = urgency;
            this.weight = weightOf(urgency);
        }

        boolean isOpen() {
            return state == WAITS || state == SPEAKS;
        }

        boolean isAheadOf(RadioCall other) {
            return weight != other.weight ? weight > other.weight : number < other.number;
        }

        boolean mayHave(int someChannel) {
            return someChannel > 0 || weight >= URGENT_WEIGHT;
        }

        boolean canBreakInOn(RadioCall speaker) {
            return weight >= URGENT_WEIGHT && weight > speaker.weight;
        }

        boolean sharesStationWith(int otherWay) {
            return (way & otherWay) != 0;
        }
    }

    /** The calls that wait, once in the order of their turns and once in a plain queue. */
    private static final class Line {
        private final RadioCall[] ordered = new RadioCall[MOST_OPEN_CALLS];
        private final RadioCall[] queue = new RadioCall[MOST_OPEN_CALLS];
        int size;

        void join(RadioCall call) {
            if (size >= ordered.length || size >= queue.length) {
                return;
            }
            queue[size] = call;
            int rank = size;
            while (rank > 0 && isAhead(call, ordered[rank - 1])) {
                ordered[rank] = ordered[rank - 1];
                rank--;
            }
            ordered[rank] = call;
            size++;
        }

        void leave(RadioCall call) {
            if (takeOut(ordered, call) && takeOut(queue, call)) {
                size--;
            }
        }

        /** Takes a call out of a row in which it stands once at most, and closes the gap. */
        private static boolean takeOut(RadioCall[] row, RadioCall call) {
            boolean found = false;
            for (int index = 0; index < row.length; index++) {
                if (row[index] == call) {
                    found = true;
                }
                if (found) {
                    row[index] = index + 1 < row.length ? row[index + 1] : null;
                }
            }
            return found;
        }

        /** The call at a rank of the line, null if there is no such rank. */
        RadioCall at(int rank) {
            return rank >= 0 && rank < size && rank < ordered.length ? ordered[rank] : null;
        }

        /** The same call, found in the plain queue: as many calls are ahead of it as its rank says. */
        RadioCall atByCounting(int rank) {
            for (int index = 0; index < size && index < queue.length; index++) {
                if (countAhead(queue[index]) == rank) {
                    return queue[index];
                }
            }
            return null;
        }

        private int countAhead(RadioCall call) {
            int count = 0;
            for (int index = 0; index < size && index < queue.length; index++) {
                if (isAhead(queue[index], call)) {
                    count++;
                }
            }
            return count;
        }

        private static boolean isAhead(RadioCall one, RadioCall other) {
            return one != null && other != null && one.isAheadOf(other);
        }

        boolean isSameByCounting() {
            for (int rank = 0; rank < size; rank++) {
                if (at(rank) == null || at(rank) != atByCounting(rank)) {
                    return false;
                }
            }
            return true;
        }
    }

    /** The channels, with the calls that speak on them. */
    private static final class Channels {
        private final RadioCall[] speakers = new RadioCall[CHANNELS];
        private final int[] spoken = new int[CHANNELS];

        /** The call that speaks on a channel, null if there is none. */
        RadioCall speaker(int channel) {
            return channel >= 0 && channel < speakers.length ? speakers[channel] : null;
        }

        /** The call to which a station belongs, null if there is none. */
        RadioCall holderOf(int station) {
            for (int channel = 0; channel < speakers.length; channel++) {
                RadioCall speaker = speakers[channel];
                if (speaker != null && speaker.sharesStationWith(1 << station)) {
                    return speaker;
                }
            }
            return null;
        }

        int busyCount() {
            int count = 0;
            for (int channel = 0; channel < speakers.length; channel++) {
                if (speakers[channel] != null) {
                    count++;
                }
            }
            return count;
        }

        /** Whether a call that waits can begin over this way. */
        boolean canTake(RadioCall call, int way) {
            boolean hasChannel = false;
            for (int channel = 0; channel < speakers.length; channel++) {
                RadioCall speaker = speakers[channel];
                boolean canHave = speaker == null || call.canBreakInOn(speaker);
                if (speaker != null && !canHave && speaker.sharesStationWith(way)) {
                    return false;
                }
                if (canHave && call.mayHave(channel)) {
                    hasChannel = true;
                }
            }
            return way != 0 && hasChannel;
        }

        /** The free channel with the lowest number that a call may have. */
        int freeFor(RadioCall call) {
            for (int channel = 0; channel < speakers.length; channel++) {
                if (speakers[channel] == null && call.mayHave(channel)) {
                    return channel;
                }
            }
            return NO_CHANNEL;
        }

        /** The least urgent call on the channels that a call may have; of several, the one that began last. */
        RadioCall leastUrgentFor(RadioCall call) {
            RadioCall least = null;
            for (int channel = 0; channel < speakers.length; channel++) {
                RadioCall speaker = speakers[channel];
                if (speaker != null && call.mayHave(channel)
                        && (least == null || isEasierToInterrupt(speaker, least))) {
                    least = speaker;
                }
            }
            return least;
        }

        private static boolean isEasierToInterrupt(RadioCall one, RadioCall other) {
            return one.weight != other.weight
                    ? one.weight < other.weight
                    : one.latestBeginning > other.latestBeginning;
        }

        void give(int channel, RadioCall call) {
            if (channel >= 0 && channel < speakers.length) {
                speakers[channel] = call;
                call.channel = channel;
            }
        }

        void free(RadioCall speaker) {
            int channel = speaker.channel;
            if (channel >= 0 && channel < speakers.length) {
                speakers[channel] = null;
            }
            speaker.channel = NO_CHANNEL;
            speaker.way = 0;
        }

        void countMinute(int channel) {
            if (channel >= 0 && channel < spoken.length) {
                spoken[channel]++;
            }
        }

        int minutesSpoken(int channel) {
            return channel >= 0 && channel < spoken.length ? spoken[channel] : 0;
        }

        boolean areAllAllowed() {
            for (int channel = 0; channel < speakers.length; channel++) {
                if (speakers[channel] != null && !speakers[channel].mayHave(channel)) {
                    return false;
                }
            }
            return true;
        }

        boolean shareNoStation() {
            int taken = 0;
            for (int channel = 0; channel < speakers.length; channel++) {
                RadioCall speaker = speakers[channel];
                if (speaker != null) {
                    if (speaker.sharesStationWith(taken)) {
                        return false;
                    }
                    taken |= speaker.way;
                }
            }
            return true;
        }
    }

    /** An entry of the log. */
    private static final class Entry {
        int time;
        char kind;
        int number;
    }

    /** The log, of which the latest entries are kept in a ring. */
    private static final class LogBook {
        private final Entry[] ring = new Entry[KEPT_ENTRIES];
        private int next;
        private int kept;
        private int total;

        LogBook() {
            for (int slot = 0; slot < ring.length; slot++) {
                ring[slot] = new Entry();
            }
        }

        void write(int time, char kind, int number) {
            if (next >= 0 && next < ring.length) {
                ring[next].time = time;
                ring[next].kind = kind;
                ring[next].number = number;
            }
            next = next + 1 < ring.length ? next + 1 : 0;
            kept = Math.min(kept + 1, ring.length);
            total++;
        }

        /** An entry that is kept, 0 being the rank of the latest one. */
        Entry entry(int rank) {
            if (rank < 0 || rank >= kept) {
                throw new NoSuchElementException("no such entry");
            }
            int slot = next - 1 - rank;
            return ring[slot >= 0 ? slot : slot + ring.length];
        }
    }
}
