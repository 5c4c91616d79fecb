import java.util.ArrayList;
import java.util.Comparator;
import java.util.List;
import java.util.NoSuchElementException;

/**
 * A model of the exchange, read from the document's words with lists and sorting, and without any
 * regard for memory. It shares no code and no way of reckoning with the program.
 */
final class PlainExchange {
    private static final String URGENCIES = "rsud";

    private static final class Post {
        int place;
        int reach;
        boolean on = true;
        int watch;
        int reportedAt;
        int missed;
    }

    private static final class Message {
        int number;
        int from;
        int to;
        char urgency;
        int left;
        char state = 'w';
        int channel = -1;
        List<Integer> way = new ArrayList<>();
        int interruptions;
        int begun;
        int placedAt;
        int firstBegunAt = -1;

        int greatness() {
            return URGENCIES.indexOf(urgency);
        }

        boolean mayHave(int someChannel) {
            return urgency == 'd' || urgency == 'u' || someChannel != 0;
        }

        boolean breaksInOn(Message other) {
            return (urgency == 'd' || urgency == 'u') && greatness() > other.greatness();
        }
    }

    private static final class Note {
        final int time;
        final char kind;
        final int number;

        Note(int time, char kind, int number) {
            this.time = time;
            this.kind = kind;
            this.number = number;
        }
    }

    private final List<Post> posts = new ArrayList<>();
    private final List<Message> messages = new ArrayList<>();
    private final List<Note> notes = new ArrayList<>();
    private final int[] spoken = new int[3];
    private int time;
    private int beginnings;
    private long waited;
    private List<List<List<Integer>>> ways;

    // Stations.

    public int addStation(int place, int reach) {
        need(place >= 0 && place <= 300 && reach >= 1 && reach <= 100);
        allow(posts.size() < 10);
        Post post = new Post();
        post.place = place;
        post.reach = reach;
        posts.add(post);
        stationsChanged();
        return posts.size() - 1;
    }

    public int move(int station, int place) {
        Post post = post(station);
        need(place >= 0 && place <= 300);
        int before = post.place;
        post.place = place;
        stationsChanged();
        return before;
    }

    public boolean setOn(int station, boolean isOn) {
        Post post = post(station);
        boolean before = post.on;
        post.on = isOn;
        if (!isOn) {
            for (Message message : speakers()) {
                if (message.way.contains(station)) {
                    interrupt(message);
                }
            }
        }
        stationsChanged();
        return before;
    }

    public int stations() {
        return posts.size();
    }

    public int placeOf(int station) {
        return post(station).place;
    }

    public boolean isOn(int station) {
        return post(station).on;
    }

    public boolean hears(int station, int other) {
        pair(station, other);
        return hearing(station, other);
    }

    public int busyWith(int station) {
        post(station);
        for (Message message : speakers()) {
            if (message.way.contains(station)) {
                return message.number;
            }
        }
        throw new NoSuchElementException();
    }

    public int relays(int from, int to) {
        pair(from, to);
        exists(way(from, to) != null);
        return way(from, to).size() - 2;
    }

    public int relaysByJoining(int from, int to) {
        return relays(from, to);
    }

    public int onWay(int from, int to, int index) {
        pair(from, to);
        exists(way(from, to) != null && index >= 0 && index < way(from, to).size());
        return way(from, to).get(index);
    }

    // Calls.

    public int call(int from, int to, char urgency, int minutes) {
        pair(from, to);
        need(URGENCIES.indexOf(urgency) >= 0 && minutes >= 1 && minutes <= 30);
        allow(canPlace());
        int number = place(from, to, urgency, minutes);
        letSpeak();
        return number;
    }

    public int cancel(int call) {
        Message message = message(call);
        allow("ws".indexOf(message.state) >= 0);
        hush(message, 'c');
        note('c', call);
        letSpeak();
        return message.left;
    }

    public char raise(int call, char urgency) {
        Message message = message(call);
        need("sud".indexOf(urgency) >= 0);
        allow("ws".indexOf(message.state) >= 0 && URGENCIES.indexOf(urgency) > message.greatness());
        char before = message.urgency;
        message.urgency = urgency;
        letSpeak();
        return before;
    }

    public char stateOf(int call) {
        return message(call).state;
    }

    public char urgencyOf(int call) {
        return message(call).urgency;
    }

    public int leftOf(int call) {
        return message(call).left;
    }

    public int channelOf(int call) {
        allow(message(call).state == 's');
        return message(call).channel;
    }

    public int interruptions(int call) {
        return message(call).interruptions;
    }

    public int speakerOn(int channel) {
        within(channel >= 0 && channel <= 2);
        exists(on(channel) != null);
        return on(channel).number;
    }

    public int calls() {
        return messages.size();
    }

    public int waiting() {
        return line().size();
    }

    public int inLine(int rank) {
        exists(rank >= 0 && rank < line().size());
        return line().get(rank).number;
    }

    public int inLineByCounting(int rank) {
        return inLine(rank);
    }

    // Time and watches.

    public int pass(int minutes) {
        need(minutes >= 1 && minutes <= 10);
        int ended = 0;
        for (int minute = 0; minute < minutes; minute++) {
            ended += passOne();
        }
        return ended;
    }

    public int time() {
        return time;
    }

    public int setWatch(int station, int minutes) {
        Post post = post(station);
        need(minutes == 0 || minutes >= 5 && minutes <= 60);
        int before = post.watch;
        post.watch = minutes;
        post.reportedAt = time;
        return before;
    }

    public int report(int station) {
        Post post = post(station);
        allow(post.on && post.watch != 0);
        int since = time - post.reportedAt;
        post.reportedAt = time;
        return since;
    }

    public int sinceReport(int station) {
        allow(post(station).watch != 0);
        return time - post(station).reportedAt;
    }

    public int missed(int station) {
        return post(station).missed;
    }

    // Log and totals.

    public int logged() {
        return notes.size();
    }

    public int logTime(int rank) {
        return kept(rank).time;
    }

    public char logKind(int rank) {
        return kept(rank).kind;
    }

    public int logNumber(int rank) {
        return kept(rank).number;
    }

    public long waited() {
        return waited;
    }

    public double meanWait() {
        double sum = 0;
        double count = 0;
        for (Message message : messages) {
            if (message.firstBegunAt >= 0) {
                sum += message.firstBegunAt - message.placedAt;
                count += 1;
            }
        }
        if (count == 0) {
            throw new ArithmeticException();
        }
        return sum / count;
    }

    public float channelShare(int channel) {
        within(channel >= 0 && channel <= 2);
        if (time == 0) {
            throw new ArithmeticException();
        }
        return (float) spoken[channel] / (float) time;
    }

    /** The document's rules keep the exchange in order; so an exchange that is not is a fault. */
    public boolean isInOrder() {
        return true;
    }

    // What the rules of the document say.

    private static void need(boolean holds) {
        if (!holds) {
            throw new IllegalArgumentException();
        }
    }

    private static void allow(boolean holds) {
        if (!holds) {
            throw new IllegalStateException();
        }
    }

    private static void within(boolean holds) {
        if (!holds) {
            throw new IndexOutOfBoundsException();
        }
    }

    private static void exists(boolean holds) {
        if (!holds) {
            throw new NoSuchElementException();
        }
    }

    private Post post(int station) {
        within(station >= 0 && station < posts.size());
        return posts.get(station);
    }

    private void pair(int station, int other) {
        post(station);
        post(other);
        need(station != other);
    }

    private Message message(int call) {
        exists(call >= 0 && call < messages.size());
        return messages.get(call);
    }

    private Note kept(int rank) {
        exists(rank >= 0 && rank < 60 && rank < notes.size());
        return notes.get(notes.size() - 1 - rank);
    }

    private void note(char kind, int number) {
        notes.add(new Note(time, kind, number));
    }

    private void stationsChanged() {
        ways = null;
        letSpeak();
    }

    private boolean hearing(int station, int other) {
        Post one = posts.get(station);
        Post two = posts.get(other);
        int distance = one.place > two.place ? one.place - two.place : two.place - one.place;
        return one.on && two.on && distance <= one.reach && distance <= two.reach;
    }

    private List<Integer> way(int from, int to) {
        if (ways == null) {
            ways = allWays();
        }
        return ways.get(from).get(to);
    }

    /** The best ways of at most one step, then of at most two, and so on: each one a step and a shorter way. */
    private List<List<List<Integer>>> allWays() {
        int count = posts.size();
        List<List<List<Integer>>> best = new ArrayList<>();
        for (int from = 0; from < count; from++) {
            best.add(new ArrayList<>());
            for (int to = 0; to < count; to++) {
                best.get(from).add(from != to && hearing(from, to) ? List.of(from, to) : null);
            }
        }
        for (int round = 0; round < count; round++) {
            for (int from = 0; from < count; from++) {
                for (int to = 0; to < count; to++) {
                    for (int first = 0; first < count && from != to; first++) {
                        List<Integer> rest = best.get(first).get(to);
                        if (first != from && hearing(from, first) && rest != null && !rest.contains(from)) {
                            List<Integer> whole = new ArrayList<>(List.of(from));
                            whole.addAll(rest);
                            if (isBetter(whole, best.get(from).get(to))) {
                                best.get(from).set(to, whole);
                            }
                        }
                    }
                }
            }
        }
        return best;
    }

    private static boolean isBetter(List<Integer> way, List<Integer> other) {
        if (other == null || way.size() != other.size()) {
            return other == null || way.size() < other.size();
        }
        for (int index = 0; index < way.size(); index++) {
            if (!way.get(index).equals(other.get(index))) {
                return way.get(index) < other.get(index);
            }
        }
        return false;
    }

    private List<Message> line() {
        List<Message> line = new ArrayList<>();
        for (Message message : messages) {
            if (message.state == 'w') {
                line.add(message);
            }
        }
        line.sort(TURNS);
        return line;
    }

    private static final Comparator<Message> TURNS =
            Comparator.comparingInt((Message message) -> -message.greatness()).thenComparingInt(message -> message.number);

    private List<Message> speakers() {
        List<Message> speakers = new ArrayList<>();
        for (int channel = 0; channel < 3; channel++) {
            if (on(channel) != null) {
                speakers.add(on(channel));
            }
        }
        return speakers;
    }

    private Message on(int channel) {
        for (Message message : messages) {
            if (message.state == 's' && message.channel == channel) {
                return message;
            }
        }
        return null;
    }

    private boolean canPlace() {
        return messages.size() < 150 && line().size() + speakers().size() < 24;
    }

    private int place(int from, int to, char urgency, int minutes) {
        Message message = new Message();
        message.number = messages.size();
        message.from = from;
        message.to = to;
        message.urgency = urgency;
        message.left = minutes;
        message.placedAt = time;
        messages.add(message);
        note('p', message.number);
        return message.number;
    }

    private void hush(Message message, char state) {
        message.state = state;
        message.channel = -1;
        message.way = new ArrayList<>();
    }

    private void interrupt(Message message) {
        hush(message, 'w');
        message.interruptions++;
        note('i', message.number);
    }

    /** Turns come in the order of the line; who has had a turn is followed by the next one behind it. */
    private void letSpeak() {
        Message had = null;
        boolean found = true;
        while (found) {
            found = false;
            for (Message message : line()) {
                if (had == null || TURNS.compare(message, had) > 0) {
                    had = message;
                    found = true;
                    break;
                }
            }
            if (found && canBegin(had)) {
                begin(had);
            }
        }
        for (Message message : line()) {
            if (canBegin(message)) {
                throw new AssertionError("a call that waits can begin after the walk through the line");
            }
        }
    }

    private List<Message> holders(List<Integer> way) {
        List<Message> holders = new ArrayList<>();
        for (Message speaker : speakers()) {
            for (int station : way) {
                if (speaker.way.contains(station) && !holders.contains(speaker)) {
                    holders.add(speaker);
                }
            }
        }
        return holders;
    }

    private boolean canBegin(Message message) {
        List<Integer> way = way(message.from, message.to);
        if (way == null) {
            return false;
        }
        List<Message> holders = holders(way);
        for (Message holder : holders) {
            if (!message.breaksInOn(holder)) {
                return false;
            }
        }
        for (int channel = 0; channel < 3; channel++) {
            Message speaker = on(channel);
            boolean willBeFree = speaker == null || holders.contains(speaker);
            if (message.mayHave(channel) && (willBeFree || message.breaksInOn(speaker))) {
                return true;
            }
        }
        return false;
    }

    private void begin(Message message) {
        List<Integer> way = way(message.from, message.to);
        for (Message holder : holders(way)) {
            interrupt(holder);
        }
        if (lowestFree(message) < 0) {
            Message least = null;
            for (Message speaker : speakers()) {
                if (message.mayHave(speaker.channel) && (least == null
                        || speaker.greatness() < least.greatness()
                        || speaker.greatness() == least.greatness() && speaker.begun > least.begun)) {
                    least = speaker;
                }
            }
            interrupt(least);
        }
        message.channel = lowestFree(message);
        message.state = 's';
        message.way = way;
        message.begun = beginnings++;
        if (message.firstBegunAt < 0) {
            message.firstBegunAt = time;
        }
        posts.get(message.from).reportedAt = time;
        note('b', message.number);
    }

    private int lowestFree(Message message) {
        for (int channel = 0; channel < 3; channel++) {
            if (message.mayHave(channel) && on(channel) == null) {
                return channel;
            }
        }
        return -1;
    }

    private int passOne() {
        time++;
        waited += line().size();
        int ended = 0;
        for (Message speaker : speakers()) {
            spoken[speaker.channel]++;
            speaker.left--;
            if (speaker.left == 0) {
                hush(speaker, 'e');
                note('e', speaker.number);
                ended++;
            }
        }
        for (int station = 0; station < posts.size(); station++) {
            Post post = posts.get(station);
            if (post.on && post.watch != 0 && time - post.reportedAt > post.watch) {
                post.missed++;
                post.reportedAt = time;
                note('m', station);
                if (station != 0 && canPlace()) {
                    place(0, station, 's', 1);
                }
            }
        }
        letSpeak();
        return ended;
    }
}
