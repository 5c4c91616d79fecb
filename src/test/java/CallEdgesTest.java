/**
 * The boundary cases that the document names for calls and their line: promises 13 to 25.
 * Each test stands for the sentence above it.
 */
public final class CallEdgesTest {
    private final Due due = new Due();

    public static void main(String[] args) {
        CallEdgesTest test = new CallEdgesTest();
        test.due.runPromises(test, 13, 25);
        test.due.close("CallEdgesTest");
    }

    /** "the urgency, 'd', 'u', 's' or 'r'", and no other of all the signs that there are */
    void promise13UrgencyIsOneOfFour() {
        for (int sign = 0; sign <= Character.MAX_VALUE; sign++) {
            char urgency = (char) sign;
            FoghornExchange x = Coasts.at(50, 0, 50);
            if (Edge.URGENCIES.indexOf(urgency) >= 0) {
                due.is("urgency " + sign, 0, () -> x.call(0, 1, urgency, 5));
                due.is("it is kept", urgency, () -> x.urgencyOf(0));
            } else {
                due.fails("urgency " + sign, Edge.NO_ARGUMENT, () -> x.call(0, 1, urgency, 5));
            }
        }
    }

    /** "how many minutes it has, 1 to 30" */
    void promise13MinutesFrom1To30() {
        for (int minutes : Edge.inside(1, 30)) {
            FoghornExchange x = Coasts.at(50, 0, 50);
            due.is("minutes " + minutes, 0, () -> x.call(0, 1, 'r', minutes));
            due.is("it has them", minutes, () -> x.leftOf(0));
        }
        FoghornExchange x = Coasts.at(50, 0, 50);
        for (int minutes : Edge.outside(1, 30)) {
            due.fails("minutes " + minutes, Edge.NO_ARGUMENT, () -> x.call(0, 1, 'r', minutes));
        }
        due.is("none was placed", 0, x::calls);
        due.is("nor logged", 0, x::logged);
    }

    /** "Throws IndexOutOfBoundsException if there is no such station, for either" */
    void promise13NoSuchStation() {
        FoghornExchange x = Coasts.at(50, 0, 50, 100);
        for (int station : Edge.outside(0, 2)) {
            due.fails("from " + station, Edge.NO_INDEX, () -> x.call(station, 0, 'r', 5));
            due.fails("to " + station, Edge.NO_INDEX, () -> x.call(0, station, 'r', 5));
            due.fails("both " + station, Edge.NO_INDEX, () -> x.call(station, station, 'r', 5));
            due.fails("and no urgency", Edge.NO_INDEX, () -> x.call(0, station, 'x', 5));
            due.fails("and no minutes", Edge.NO_INDEX, () -> x.call(0, station, 'r', 0));
        }
        due.is("from the last to the first", 0, () -> x.call(2, 0, 'r', 5));
        due.is("from the first to the last", 1, () -> x.call(0, 2, 'r', 5));
    }

    /** "Throws IllegalArgumentException if both are the same" */
    void promise13BothAreTheSame() {
        FoghornExchange x = Coasts.at(50, 0, 50);
        due.fails("the first", Edge.NO_ARGUMENT, () -> x.call(0, 0, 'r', 5));
        due.fails("the last", Edge.NO_ARGUMENT, () -> x.call(1, 1, 'r', 5));
        due.is("none was placed", 0, x::calls);
    }

    /** ".. at most 24 wait or speak at a time": all of them wait. */
    void promise13AtMost24Wait() {
        FoghornExchange x = Coasts.apart();
        for (int call = 0; call < 24; call++) {
            int want = call;
            due.is("places", want, () -> x.call(0, 1, 'r', 5));
        }
        due.fails("a 25th", Edge.NO_STATE, () -> x.call(0, 1, 'd', 5));
        due.is("was not placed", 24, x::calls);
        due.is("nor waits", 24, x::waiting);
        due.is("24 that can't begin", true, x::isInOrder);
    }

    /** The same with one, two and three of them that speak. */
    void promise13AtMost24WaitOrSpeak() {
        for (int speaking = 1; speaking <= 3; speaking++) {
            FoghornExchange x = harbourWithDistresses(speaking);
            int waiting = 24 - speaking;
            for (int call = 0; call < waiting; call++) {
                int want = speaking + call;
                due.is("places", want, () -> x.call(0, 2, 'r', 5));
            }
            due.fails("a 25th", Edge.NO_STATE, () -> x.call(8, 9, 'd', 5));
            due.is("so many wait", waiting, x::waiting);
        }
    }

    /** Distresses between the stations 0 and 1, 2 and 3, 4 and 5, which speak on the channels 0, 1, 2. */
    private static FoghornExchange harbourWithDistresses(int count) {
        FoghornExchange x = Coasts.harbour();
        for (int call = 0; call < count; call++) {
            x.call(2 * call, 2 * call + 1, 'd', 2);
        }
        return x;
    }

    /** Who has ended or was cancelled neither waits nor speaks any more; who was interrupted waits. */
    void promise13RoomFor24Again() {
        FoghornExchange x = harbourWithDistresses(3);
        for (int call = 0; call < 21; call++) {
            x.call(0, 2, 'r', 5);
        }
        x.setOn(1, false);
        due.is("interrupted", 'w', () -> x.stateOf(0));
        due.fails("makes no room", Edge.NO_STATE, () -> x.call(8, 9, 'd', 5));
        x.cancel(23);
        due.is("one that waits, cancelled, makes room", 24, () -> x.call(8, 9, 'd', 5));
        due.fails("for one", Edge.NO_STATE, () -> x.call(8, 9, 'd', 5));
        x.cancel(24);
        due.is("one that speaks, cancelled, makes room", 25, () -> x.call(8, 9, 'd', 1));
        due.fails("for one again", Edge.NO_STATE, () -> x.call(8, 9, 'd', 5));
        x.pass(1);
        due.is("one that has ended makes room", 26, () -> x.call(8, 9, 'd', 1));
        due.fails("for one once more", Edge.NO_STATE, () -> x.call(8, 9, 'd', 5));
    }

    /** ".. at most 150 are placed in all", though none of them waits or speaks any more. */
    void promise13AtMost150InAll() {
        FoghornExchange x = Coasts.apart();
        for (int call = 0; call < 150; call++) {
            int want = call;
            due.is("places", want, () -> x.call(0, 1, 'r', 5));
            x.cancel(call);
        }
        due.fails("one more", Edge.NO_STATE, () -> x.call(0, 1, 'r', 5));
        due.is("calls", 150, x::calls);
        due.is("none waits", 0, x::waiting);
        due.fails("and not valid", Edge.NO_ARGUMENT, () -> x.call(0, 1, 'x', 5));
        due.fails("and to none", Edge.NO_INDEX, () -> x.call(0, 2, 'x', 5));
    }

    /** The 150th call is the 24th that waits. */
    void promise13Both24And150() {
        FoghornExchange x = Coasts.apart();
        for (int call = 0; call < 126; call++) {
            x.call(0, 1, 'r', 5);
            x.cancel(call);
        }
        Coasts.placeWaiting(x, 23);
        due.is("the 150th", 149, () -> x.call(0, 1, 'r', 5));
        due.is("is the 24th", 24, x::waiting);
        due.fails("both are full", Edge.NO_STATE, () -> x.call(0, 1, 'r', 5));
        x.cancel(149);
        due.fails("150 alone", Edge.NO_STATE, () -> x.call(0, 1, 'r', 5));
    }

    /** "A distress or an urgency may have each channel, and the others may have the channels 1 and 2." */
    void promise13ChannelsOfEachUrgency() {
        for (char urgency : "rsud".toCharArray()) {
            FoghornExchange x = Coasts.harbour();
            for (int call = 0; call < 4; call++) {
                x.call(2 * call, 2 * call + 1, urgency, 5);
            }
            boolean hasAll = urgency == 'u' || urgency == 'd';
            due.same("channels of " + urgency, hasAll ? "0 1 2" : "- 0 1", Coasts.speakers(x));
            due.same("who waits of " + urgency, hasAll ? "3" : "2 3", Coasts.line(x));
        }
    }

    /** "A call can break in on a call that speaks if it is a distress or an urgency, and its urgency is greater." */
    void promise13BreaksInOnAStation() {
        for (char other : "rsud".toCharArray()) {
            for (char urgency : "rsud".toCharArray()) {
                FoghornExchange x = Coasts.harbour();
                x.call(0, 1, other, 9);
                x.call(1, 2, urgency, 9);
                String want = Edge.breaksIn(urgency, other) ? "p1 i0 b1" : "p0 b0 p1";
                due.same(urgency + " on " + other, want, Coasts.latest(x, 3));
            }
        }
    }

    /** The same where no station is shared, but no channel is free; on channel 0 is always a distress. */
    void promise13BreaksInOnAChannel() {
        for (char other : "rsud".toCharArray()) {
            for (char urgency : "rsud".toCharArray()) {
                FoghornExchange x = Coasts.harbour();
                x.call(0, 1, 'd', 9);
                x.call(2, 3, other, 9);
                x.call(4, 5, other, 9);
                x.call(6, 7, urgency, 9);
                String want = Edge.breaksIn(urgency, other) ? "0 1 3" : "0 1 2";
                due.same(urgency + " on " + other, want, Coasts.speakers(x));
            }
        }
    }

    /** "A call that waits can begin if it has a way": without one it interrupts nobody. */
    void promise13NoWayNoBeginning() {
        FoghornExchange x = Coasts.at(50, 0, 50, 300);
        x.call(0, 1, 'r', 5);
        x.call(0, 2, 'd', 5);
        due.same("out of reach", "p0 b0 p1", Coasts.latest(x, 3));
        x.setOn(2, false);
        x.move(2, 50);
        due.is("off", 'w', () -> x.stateOf(1));
        x.setOn(2, true);
        due.same("in reach and on", "i0 b1", Coasts.latest(x, 2));
    }

    /** "if it can break in on each call to which a station of its way belongs" */
    void promise13NotIfOneOfSeveralStays() {
        for (int stays = 0; stays < 3; stays++) {
            FoghornExchange x = Coasts.at(50, 0, 50, 100, 0, 50, 100);
            for (int call = 0; call < 3; call++) {
                x.call(call, 3 + call, call == stays ? 'u' : 'r', 9);
            }
            x.call(0, 2, 'u', 9);
            due.is("equal " + stays, 'w', () -> x.stateOf(3));
            due.same("nobody is interrupted", "p3", Coasts.latest(x, 1));
        }
    }

    /** "the calls to which stations of its way belong are interrupted, in the order of their channels" */
    void promise13InterruptsInTheOrderOfChannels() {
        FoghornExchange x = Coasts.at(50, 0, 50, 100, 0, 50, 100);
        x.call(0, 3, 'r', 9);
        x.call(1, 4, 'r', 9);
        x.call(2, 5, 'u', 9);
        due.same("the last has channel 0", "2 0 1", Coasts.speakers(x));
        x.call(0, 2, 'd', 9);
        due.same("it goes first", "p3 i2 i0 i1 b3", Coasts.latest(x, 5));
        FoghornExchange y = Coasts.at(50, 0, 50, 100, 0, 50, 100);
        y.call(0, 3, 'r', 1);
        y.call(2, 5, 'r', 9);
        y.pass(1);
        y.call(0, 3, 'r', 9);
        due.same("the later one has the lower channel", "- 2 1", Coasts.speakers(y));
        y.call(2, 0, 'u', 9);
        due.same("nor the way's order", "p3 i2 i1 b3", Coasts.latest(y, 4));
    }

    /** "Then, if no channel that it may have is free": one that its stations have freed is enough. */
    void promise13FreedChannelIsEnough() {
        for (int holder = 0; holder < 3; holder++) {
            FoghornExchange x = Coasts.harbour();
            x.call(0, 1, 'u', 9);
            x.call(2, 3, 's', 9);
            x.call(4, 5, 'r', 9);
            x.call(2 * holder, 6, 'd', 9);
            due.same("breaks in on " + holder, "p3 i" + holder + " b3", Coasts.latest(x, 3));
            due.is("has its channel", holder, () -> x.channelOf(3));
        }
    }

    /** "the call with the least urgency on these channels is interrupted", wherever it speaks, early or late */
    void promise13LeastUrgentGoes() {
        String[] urgencies = {"usr", "urs", "uus", "uur", "dus", "dsr", "drs", "uru", "usu", "dur", "dru", "ddu"};
        int[] least = {2, 1, 2, 2, 2, 2, 1, 1, 1, 2, 1, 2};
        for (int row = 0; row < urgencies.length; row++) {
            FoghornExchange x = Coasts.harbour();
            for (int call = 0; call < 3; call++) {
                x.call(2 * call, 2 * call + 1, urgencies[row].charAt(call), 9);
            }
            x.call(6, 7, 'd', 9);
            due.same(urgencies[row], "p3 i" + least[row] + " b3", Coasts.latest(x, 3));
        }
        FoghornExchange y = Coasts.harbour();
        y.call(0, 1, 'u', 9);
        y.call(2, 3, 'd', 9);
        y.call(4, 5, 'd', 9);
        y.call(6, 7, 'd', 9);
        due.same("on channel 0", "3 1 2", Coasts.speakers(y));
    }

    /** "of several, the one that began last": of two on each pair of channels, and of three. */
    void promise13OfSeveralTheOneThatBeganLast() {
        for (int again = 0; again < 3; again++) {
            FoghornExchange x = Coasts.harbour();
            x.call(0, 1, 'u', 9);
            x.call(2, 3, 'u', 9);
            x.call(4, 5, 'u', 9);
            x.cancel(again);
            x.call(6, 7, 'u', 9);
            x.call(8, 9, 'd', 9);
            due.same("the newest, on channel " + again, "p4 i3 b4", Coasts.latest(x, 3));
        }
        FoghornExchange y = Coasts.harbour();
        y.call(0, 1, 'r', 9);
        y.call(2, 3, 'r', 9);
        y.call(4, 5, 'd', 9);
        y.call(6, 7, 'd', 9);
        due.same("the second of two", "2 0 3", Coasts.speakers(y));
        y.call(8, 9, 'd', 9);
        due.same("then the first", "2 4 3", Coasts.speakers(y));
    }

    /** "The beginning of a call that was interrupted and began again is its latest one." */
    void promise13BeganAgainIsItsLatestBeginning() {
        for (int again = 0; again < 3; again++) {
            FoghornExchange x = Coasts.harbour();
            x.call(0, 1, 'u', 9);
            x.call(2, 3, 'u', 9);
            x.call(4, 5, 'u', 9);
            x.setOn(2 * again, false);
            x.setOn(2 * again, true);
            x.call(8, 9, 'd', 9);
            due.same("begun again", "p3 i" + again + " b3", Coasts.latest(x, 3));
        }
    }

    /** Neither its number nor its placing counts, but its beginning. */
    void promise13BeganLastThoughPlacedFirst() {
        FoghornExchange x = Coasts.at(100, 0, 1, 2, 3, 4, 5, 6, 7, 300);
        x.call(0, 8, 'u', 9);
        x.call(2, 3, 'u', 9);
        x.call(4, 5, 'u', 9);
        x.move(8, 50);
        due.same("the first began last", "1 2 0", Coasts.speakers(x));
        x.call(6, 7, 'd', 9);
        due.same("and goes", "p3 i0 b3", Coasts.latest(x, 3));
    }

    /** "it speaks on the free one of these channels with the lowest number" */
    void promise13LowestFreeChannel() {
        FoghornExchange x = Coasts.harbour();
        x.call(0, 1, 'u', 9);
        x.call(2, 3, 'r', 9);
        x.call(4, 5, 'r', 9);
        x.cancel(1);
        x.call(5, 6, 'd', 9);
        due.same("1 is free, and 2 is freed", "0 3 -", Coasts.speakers(x));
        FoghornExchange y = Coasts.harbour();
        y.call(0, 1, 'r', 9);
        y.call(2, 3, 'r', 9);
        y.call(0, 2, 'u', 9);
        due.same("0 is free, and both others are freed", "2 - -", Coasts.speakers(y));
        FoghornExchange z = Coasts.harbour();
        z.call(0, 1, 's', 9);
        z.call(2, 3, 's', 9);
        z.cancel(0);
        z.call(4, 5, 'r', 9);
        due.same("0 is free, but not for a routine", "- 2 1", Coasts.speakers(z));
    }

    /** "Those that are interrupted by this come into the line, and their turn comes as well." */
    void promise13InterruptedBeginOverAnotherWay() {
        FoghornExchange x = Coasts.at(50, 0, 50, 100, 50, 200, 50);
        x.call(0, 2, 'u', 9);
        x.call(3, 5, 'r', 9);
        x.move(1, 200);
        x.call(4, 1, 'd', 9);
        due.same("and break in themselves", "p2 i0 b2 i1 b0", Coasts.latest(x, 5));
        due.same("on other channels", "2 0 -", Coasts.speakers(x));
        due.same("the routine has had its turn", "1", Coasts.line(x));
        FoghornExchange y = Coasts.at(50, 0, 50, 100, 50, 200);
        y.call(0, 2, 'r', 9);
        y.move(1, 200);
        y.call(4, 1, 'd', 9);
        due.same("a routine too", "p1 i0 b1 b0", Coasts.latest(y, 4));
    }

    /** ".. goes through the line from its beginning": a later call of a greater urgency has its turn first. */
    void promise13GreaterUrgencyFirst() {
        FoghornExchange x = Coasts.apart();
        x.addStation(150, 10);
        for (char urgency : "rsudd".toCharArray()) {
            x.call(0, 1, urgency, 9);
        }
        x.move(1, 10);
        due.same("the first distress alone", "p4 b3", Coasts.latest(x, 2));
        x.cancel(3);
        due.same("then the other one", "c3 b4", Coasts.latest(x, 2));
        x.cancel(4);
        x.cancel(2);
        x.cancel(1);
        due.same("then by urgency", "c4 b2 c2 b1 c1 b0", Coasts.latest(x, 6));
    }

    /** "lets each call begin that can": the first, one that breaks in behind it, and the last of a line of 23 */
    void promise13EachOfALongLineThatCan() {
        FoghornExchange x = Coasts.harbour();
        x.call(0, 2, 'd', 9);
        x.call(4, 5, 's', 9);
        x.call(2, 3, 'u', 9);
        for (int call = 3; call < 23; call++) {
            x.call(0, 1, 'd', 9);
        }
        x.call(2, 6, 'r', 9);
        due.same("two speak", "0 1 -", Coasts.speakers(x));
        x.cancel(0);
        due.same("the first of the line, and the urgency behind the distresses", "c0 b3 b2", Coasts.latest(x, 3));
        x.cancel(2);
        due.same("the last of the line", "c2 b23", Coasts.latest(x, 2));
        FoghornExchange y = Coasts.harbour();
        y.call(0, 2, 'd', 9);
        y.call(4, 5, 's', 9);
        y.call(6, 7, 'r', 9);
        for (int call = 3; call < 22; call++) {
            y.call(0, 1, 'd', 9);
        }
        y.call(2, 3, 'u', 9);
        y.call(2, 8, 's', 9);
        y.cancel(0);
        due.same("the urgency breaks in though all channels are taken", "c0 b3 i2 b22", Coasts.latest(y, 4));
    }

    /** "Throws NoSuchElementException if there is no such call" */
    void promise14NoSuchCall() {
        FoghornExchange x = new FoghornExchange();
        due.fails("of none", Edge.NO_ELEMENT, () -> x.cancel(0));
        FoghornExchange y = Coasts.apart();
        Coasts.placeWaiting(y, 3);
        for (int call : Edge.outside(0, 2)) {
            due.fails("call " + call, Edge.NO_ELEMENT, () -> y.cancel(call));
        }
        due.is("the last", 1, () -> y.cancel(2));
        due.is("the first", 1, () -> y.cancel(0));
    }

    /** "Throws IllegalStateException if it neither waits nor speaks" */
    void promise14NeitherWaitsNorSpeaks() {
        FoghornExchange x = Coasts.harbour();
        x.call(0, 1, 'r', 1);
        x.call(2, 3, 'r', 5);
        x.call(2, 4, 'r', 5);
        x.pass(1);
        due.fails("has ended", Edge.NO_STATE, () -> x.cancel(0));
        due.is("speaks", 4, () -> x.cancel(1));
        due.fails("was cancelled while it spoke", Edge.NO_STATE, () -> x.cancel(1));
        x.call(2, 4, 'r', 5);
        due.is("waits", 5, () -> x.cancel(3));
        due.fails("was cancelled while it waited", Edge.NO_STATE, () -> x.cancel(3));
        due.is("is logged once", 'c', () -> x.logKind(0));
        due.is("and only once", 'p', () -> x.logKind(1));
    }

    /** "Returns the minutes that it had left", from all 30 to the last one. */
    void promise14MinutesLeft() {
        FoghornExchange x = Coasts.harbour();
        x.call(0, 1, 'r', 30);
        due.is("all", 30, () -> x.cancel(0));
        x.call(0, 1, 'r', 30);
        x.pass(10);
        x.pass(10);
        x.pass(9);
        x.setOn(0, false);
        due.is("the last one, interrupted", 1, () -> x.cancel(1));
        due.is("they stay", 1, () -> x.leftOf(1));
    }

    /** A call that is cancelled frees its stations and its channel at once. */
    void promise14CancelledFreesStationsAndChannel() {
        FoghornExchange x = harbourWithDistresses(3);
        x.call(6, 7, 'd', 9);
        x.call(4, 5, 'd', 9);
        x.cancel(1);
        due.same("its channel", "0 3 2", Coasts.speakers(x));
        x.cancel(2);
        due.same("its stations", "0 3 4", Coasts.speakers(x));
        x.cancel(3);
        due.same("and nobody waits", "0 - 4", Coasts.speakers(x));
    }

    /** "Throws NoSuchElementException if there is no such call" */
    void promise15NoSuchCall() {
        FoghornExchange x = new FoghornExchange();
        due.fails("of none", Edge.NO_ELEMENT, () -> x.raise(0, 'd'));
        FoghornExchange y = Coasts.apart();
        Coasts.placeWaiting(y, 3);
        for (int call : Edge.outside(0, 2)) {
            due.fails("call " + call, Edge.NO_ELEMENT, () -> y.raise(call, 'd'));
            due.fails("and no urgency", Edge.NO_ELEMENT, () -> y.raise(call, 'x'));
        }
        due.is("the first", 'r', () -> y.raise(0, 'd'));
        due.is("the last", 'r', () -> y.raise(2, 'd'));
    }

    /** "the urgency, 'd', 'u' or 's'": no other of all the signs that there are, a closed call or an open one */
    void promise15UrgencyIsOneOfThree() {
        for (int sign = 0; sign <= Character.MAX_VALUE; sign++) {
            char urgency = (char) sign;
            FoghornExchange x = Coasts.at(50, 0, 50);
            x.call(0, 1, 'r', 5);
            if ("sud".indexOf(urgency) >= 0) {
                due.is("urgency " + sign, 'r', () -> x.raise(0, urgency));
                due.is("it is kept", urgency, () -> x.urgencyOf(0));
            } else {
                due.fails("urgency " + sign, Edge.NO_ARGUMENT, () -> x.raise(0, urgency));
                due.is("it is kept", 'r', () -> x.urgencyOf(0));
            }
        }
        FoghornExchange y = Coasts.at(50, 0, 50);
        y.call(0, 1, 'd', 5);
        y.cancel(0);
        due.fails("closed, and no urgency", Edge.NO_ARGUMENT, () -> y.raise(0, 'x'));
        due.fails("closed, and routine", Edge.NO_ARGUMENT, () -> y.raise(0, 'r'));
        due.fails("closed", Edge.NO_STATE, () -> y.raise(0, 'd'));
    }

    /** "IllegalStateException if .. its urgency is not less than this one", for a call that waits and one that speaks */
    void promise15OnlyToAGreaterUrgency() {
        for (char before : "rsud".toCharArray()) {
            for (char urgency : "sud".toCharArray()) {
                raise(Coasts.apart(), before, urgency);
                raise(Coasts.harbour(), before, urgency);
            }
        }
    }

    private void raise(FoghornExchange x, char before, char urgency) {
        x.call(0, 1, before, 5);
        char state = x.stateOf(0);
        if (Edge.URGENCIES.indexOf(urgency) > Edge.URGENCIES.indexOf(before)) {
            due.is(state + " from " + before + " to " + urgency, before, () -> x.raise(0, urgency));
            due.is("is raised", urgency, () -> x.urgencyOf(0));
        } else {
            due.fails(state + " from " + before + " to " + urgency, Edge.NO_STATE, () -> x.raise(0, urgency));
            due.is("is as before", before, () -> x.urgencyOf(0));
        }
        due.is("goes on", state, () -> x.stateOf(0));
        due.is("is not interrupted", 0, () -> x.interruptions(0));
        due.is("waits once, or not", state == 'w' ? 1 : 0, x::waiting);
    }

    /** "IllegalStateException if the call neither waits nor speaks" */
    void promise15NeitherWaitsNorSpeaks() {
        FoghornExchange x = Coasts.harbour();
        x.call(0, 1, 'r', 1);
        x.call(2, 3, 'r', 5);
        x.pass(1);
        x.cancel(1);
        due.fails("has ended", Edge.NO_STATE, () -> x.raise(0, 's'));
        due.fails("was cancelled", Edge.NO_STATE, () -> x.raise(1, 'd'));
        due.is("stays", 'r', () -> x.urgencyOf(0));
        due.is("stays too", 'r', () -> x.urgencyOf(1));
    }

    /** ".. made more urgent": one that waits begins if it can now, and stands where its urgency puts it. */
    void promise15RaisedTakesItsTurn() {
        FoghornExchange x = Coasts.harbour();
        x.call(0, 1, 'r', 9);
        x.call(0, 2, 'r', 9);
        x.call(0, 3, 'r', 9);
        x.call(0, 4, 's', 9);
        x.raise(2, 's');
        due.same("among equals by number", "2 3 1", Coasts.line(x));
        due.same("a safety breaks in on none", "- 0 -", Coasts.speakers(x));
        x.raise(2, 'u');
        due.same("an urgency does", "2 - -", Coasts.speakers(x));
        due.same("the routine is back in the line", "3 0 1", Coasts.line(x));
    }

    /** "if it speaks, it goes on", on a channel that it has, and counts as what it is now. */
    void promise15RaisedSpeakerCountsAsRaised() {
        FoghornExchange x = Coasts.harbour();
        x.call(0, 1, 'd', 9);
        x.call(2, 3, 'r', 9);
        x.call(4, 5, 'r', 9);
        x.raise(2, 's');
        due.same("goes on", "0 1 2", Coasts.speakers(x));
        x.call(6, 7, 'u', 9);
        due.same("the one that began last is no more the least urgent", "0 3 2", Coasts.speakers(x));
        due.is("nothing is logged of it", 9, x::logged);
        FoghornExchange y = Coasts.harbour();
        y.call(0, 1, 'r', 9);
        y.raise(0, 'd');
        due.same("on channel 1 though 0 is free", "- 0 -", Coasts.speakers(y));
    }

    /** "Throws NoSuchElementException if there is no such call", from none to all 150 */
    void promise16NoSuchCall() {
        questionsOfACall("stateOf", x -> x::stateOf);
    }

    void promise17NoSuchCall() {
        questionsOfACall("urgencyOf", x -> x::urgencyOf);
    }

    void promise18NoSuchCall() {
        questionsOfACall("leftOf", x -> x::leftOf);
    }

    void promise20NoSuchCall() {
        questionsOfACall("interruptions", x -> x::interruptions);
    }

    private void questionsOfACall(String name, Edge.Asked asked) {
        FoghornExchange x = Coasts.apart();
        Edge.Question question = asked.on(x);
        due.fails(name + " of none", Edge.NO_ELEMENT, () -> question.of(0));
        for (int call = 0; call < 150; call++) {
            int last = call;
            x.call(0, 1, 'r', 30);
            due.same(name + " of the last", false, Due.answerOf(() -> question.of(last)) instanceof String);
            x.cancel(call);
        }
        due.same(name + " of the first", false, Due.answerOf(() -> question.of(0)) instanceof String);
        for (int call : Edge.outside(0, 149)) {
            due.fails(name + " of " + call, Edge.NO_ELEMENT, () -> question.of(call));
        }
    }

    /** "A call waits, speaks on a channel, has ended, or was cancelled." */
    void promise16EachState() {
        FoghornExchange x = Coasts.at(50, 0, 50);
        x.setOn(1, false);
        x.call(0, 1, 'r', 2);
        due.is("waits", 'w', () -> x.stateOf(0));
        x.setOn(1, true);
        due.is("speaks", 's', () -> x.stateOf(0));
        x.pass(1);
        due.is("in its last minute", 's', () -> x.stateOf(0));
        x.setOn(1, false);
        due.is("interrupted", 'w', () -> x.stateOf(0));
        x.setOn(1, true);
        x.pass(1);
        due.is("has ended", 'e', () -> x.stateOf(0));
        x.call(0, 1, 'r', 2);
        x.cancel(1);
        due.is("was cancelled", 'c', () -> x.stateOf(1));
    }

    /** "the urgencies are .. 'd' .. 'u' .. 's' .. 'r'", from the placing on, until it is raised */
    void promise17EachUrgency() {
        for (char urgency : "rsud".toCharArray()) {
            FoghornExchange x = Coasts.at(50, 0, 50);
            x.call(0, 1, urgency, 1);
            due.is("speaks", urgency, () -> x.urgencyOf(0));
            x.pass(1);
            due.is("has ended", urgency, () -> x.urgencyOf(0));
        }
    }

    /** "each call that speaks .. has one minute less left", one that waits has not */
    void promise18FromAllMinutesToNone() {
        FoghornExchange x = Coasts.at(50, 0, 50);
        x.call(0, 1, 'r', 30);
        x.call(1, 0, 'r', 1);
        for (int minute = 1; minute < 30; minute++) {
            x.pass(1);
            int left = 30 - minute;
            due.is("after minute " + minute, left, () -> x.leftOf(0));
        }
        due.is("who waits has all", 1, () -> x.leftOf(1));
        x.setOn(0, false);
        x.pass(1);
        due.is("interrupted, none is used", 1, () -> x.leftOf(0));
        x.setOn(0, true);
        x.pass(1);
        due.is("none is left", 0, () -> x.leftOf(0));
        due.is("begun at the end of the minute", 1, () -> x.leftOf(1));
        x.pass(1);
        due.is("none is left of it", 0, () -> x.leftOf(1));
    }

    /** "Throws NoSuchElementException if there is no such call" comes before "if it does not speak" */
    void promise19NoSuchCallOrNotSpeaking() {
        FoghornExchange x = Coasts.at(50, 0, 50);
        due.fails("of none", Edge.NO_ELEMENT, () -> x.channelOf(0));
        x.call(0, 1, 'r', 1);
        x.call(0, 1, 'r', 1);
        x.call(0, 1, 'r', 1);
        for (int call : Edge.outside(0, 2)) {
            due.fails("call " + call, Edge.NO_ELEMENT, () -> x.channelOf(call));
        }
        due.is("speaks", 1, () -> x.channelOf(0));
        due.fails("waits", Edge.NO_STATE, () -> x.channelOf(1));
        x.cancel(1);
        due.fails("was cancelled", Edge.NO_STATE, () -> x.channelOf(1));
        x.pass(1);
        due.fails("has ended", Edge.NO_STATE, () -> x.channelOf(0));
        due.is("the last speaks", 1, () -> x.channelOf(2));
        x.setOn(0, false);
        due.fails("was interrupted", Edge.NO_STATE, () -> x.channelOf(2));
    }

    /** "There are the channels 0, 1 and 2" */
    void promise19EachChannel() {
        FoghornExchange x = harbourWithDistresses(3);
        for (int call = 0; call < 3; call++) {
            int asked = call;
            due.is("call " + call, asked, () -> x.channelOf(asked));
        }
    }

    /** "Returns how often a call was interrupted": by a station that is set off, by its stations, by its channel. */
    void promise20EachInterruption() {
        FoghornExchange x = Coasts.harbour();
        x.call(0, 1, 'r', 9);
        due.is("never", 0, () -> x.interruptions(0));
        x.setOn(1, false);
        x.setOn(1, true);
        due.is("set off", 1, () -> x.interruptions(0));
        x.call(1, 2, 'u', 1);
        due.is("its station", 2, () -> x.interruptions(0));
        x.pass(1);
        x.call(2, 3, 'u', 9);
        x.call(4, 5, 'u', 9);
        x.call(6, 7, 'u', 9);
        due.is("its channel", 3, () -> x.interruptions(0));
        x.setOn(0, false);
        due.is("who waits is not interrupted", 3, () -> x.interruptions(0));
    }

    /** "Throws IndexOutOfBoundsException if there is no such channel" comes before "if no call speaks on it" */
    void promise21NoSuchChannelOrNobodyOnIt() {
        FoghornExchange x = Coasts.harbour();
        for (int channel : Edge.outside(0, 2)) {
            due.fails("channel " + channel, Edge.NO_INDEX, () -> x.speakerOn(channel));
        }
        for (int call = 0; call < 3; call++) {
            int channel = call;
            due.fails("nobody on " + channel, Edge.NO_ELEMENT, () -> x.speakerOn(channel));
            x.call(2 * call, 2 * call + 1, 'u', 2 - call / 2);
            due.is("on " + channel, channel, () -> x.speakerOn(channel));
        }
        for (int channel : Edge.outside(0, 2)) {
            due.fails("channel " + channel + ", all full", Edge.NO_INDEX, () -> x.speakerOn(channel));
        }
        x.setOn(0, false);
        due.fails("interrupted", Edge.NO_ELEMENT, () -> x.speakerOn(0));
        x.cancel(1);
        due.fails("cancelled", Edge.NO_ELEMENT, () -> x.speakerOn(1));
        x.pass(1);
        due.fails("ended", Edge.NO_ELEMENT, () -> x.speakerOn(2));
    }

    /** "Returns the number of calls that have been placed", open or not, from none to 150 */
    void promise22FromNoneTo150() {
        FoghornExchange x = Coasts.apart();
        for (int call = 0; call < 150; call++) {
            int want = call;
            due.is("so far", want, x::calls);
            x.call(0, 1, 'r', 1);
            x.cancel(call);
        }
        due.is("150", 150, x::calls);
        due.fails("no more", Edge.NO_STATE, () -> x.call(0, 1, 'r', 1));
        due.is("still 150", 150, x::calls);
    }

    void promise22RefusedAreNotCounted() {
        FoghornExchange x = Coasts.apart();
        due.fails("no station", Edge.NO_INDEX, () -> x.call(0, 2, 'r', 1));
        due.fails("no urgency", Edge.NO_ARGUMENT, () -> x.call(0, 1, 'x', 1));
        due.is("none", 0, x::calls);
        Coasts.placeWaiting(x, 24);
        due.fails("too many", Edge.NO_STATE, () -> x.call(0, 1, 'r', 1));
        due.is("24", 24, x::calls);
    }

    /** "Returns the number of calls that wait", from none to 24 */
    void promise23FromNoneTo24() {
        FoghornExchange x = Coasts.apart();
        for (int call = 0; call < 24; call++) {
            int want = call;
            due.is("so far", want, x::waiting);
            x.call(0, 1, 'r', 1);
        }
        due.is("24", 24, x::waiting);
        for (int call = 0; call < 24; call++) {
            int want = 23 - call;
            x.cancel(call);
            due.is("left", want, x::waiting);
        }
    }

    /** Who speaks, has ended or was cancelled does not wait. */
    void promise23OnlyThoseThatWait() {
        FoghornExchange x = harbourWithDistresses(3);
        due.is("three speak", 0, x::waiting);
        x.call(6, 7, 's', 1);
        due.is("one waits", 1, x::waiting);
        x.setOn(1, false);
        due.is("one was interrupted", 2, x::waiting);
        x.pass(2);
        due.is("the others have ended, the safety speaks", 1, x::waiting);
        x.cancel(0);
        due.is("cancelled", 0, x::waiting);
    }

    /** "Throws NoSuchElementException if there is no such rank", for each length of the line from none to 24 */
    void promise24RanksOfTheLine() {
        ranksOfTheLine(x -> x::inLine);
    }

    void promise25RanksOfTheLine() {
        ranksOfTheLine(x -> x::inLineByCounting);
    }

    private void ranksOfTheLine(Edge.Asked asked) {
        FoghornExchange x = Coasts.apart();
        Edge.Question inLine = asked.on(x);
        due.fails("nobody waits", Edge.NO_ELEMENT, () -> inLine.of(0));
        for (int size = 1; size <= 24; size++) {
            int last = size - 1;
            x.call(0, 1, 'r', 1);
            due.is("the first of " + size, 0, () -> inLine.of(0));
            due.is("the last of " + size, last, () -> inLine.of(last));
            for (int rank : Edge.outside(0, last)) {
                due.fails("rank " + rank + " of " + size, Edge.NO_ELEMENT, () -> inLine.of(rank));
            }
        }
    }

    /** "the one with the greater urgency is ahead, and for equal urgencies, the one with the lower number" */
    void promise24FullLineByUrgencyAndNumber() {
        fullLineByUrgencyAndNumber(x -> x::inLine);
    }

    void promise25FullLineByUrgencyAndNumber() {
        fullLineByUrgencyAndNumber(x -> x::inLineByCounting);
    }

    private void fullLineByUrgencyAndNumber(Edge.Asked asked) {
        Edge.Question inLine = asked.on(fullLine());
        for (int rank = 0; rank < 24; rank++) {
            int ofRank = rank;
            int want = 3 - rank / 6 + 4 * (rank % 6);
            due.is("rank " + rank, want, () -> inLine.of(ofRank));
        }
    }

    /** 24 calls that wait, six of each urgency in turns. */
    private static FoghornExchange fullLine() {
        FoghornExchange x = Coasts.apart();
        for (int call = 0; call < 24; call++) {
            x.call(0, 1, Edge.URGENCIES.charAt(call % 4), 5);
        }
        return x;
    }

    /** An interrupted call stands by its number again, not behind those that came later. */
    void promise24InterruptedStandsByItsNumber() {
        FoghornExchange x = Coasts.harbour();
        x.call(0, 1, 'r', 9);
        x.call(0, 2, 'r', 9);
        x.call(0, 3, 'r', 9);
        x.setOn(0, false);
        due.same("the first again", "0 1 2", Coasts.line(x));
        due.is("by counting too", 0, () -> x.inLineByCounting(0));
        due.is("the last by counting", 2, () -> x.inLineByCounting(2));
    }

    /** The ranks close up when one leaves from the beginning, the middle or the end of a full line. */
    void promise24LeavingClosesTheRanks() {
        for (int leaves = 0; leaves < 24; leaves++) {
            int gone = leaves;
            FoghornExchange x = Coasts.apart();
            Coasts.placeWaiting(x, 24);
            x.cancel(gone);
            for (int rank = 0; rank < 23; rank++) {
                int asked = rank;
                int want = rank < gone ? rank : rank + 1;
                due.is("rank " + rank + " without " + gone, want, () -> x.inLine(asked));
                due.is("by counting", want, () -> x.inLineByCounting(asked));
            }
            due.fails("no rank 23", Edge.NO_ELEMENT, () -> x.inLine(23));
            due.fails("nor by counting", Edge.NO_ELEMENT, () -> x.inLineByCounting(23));
        }
    }
}
