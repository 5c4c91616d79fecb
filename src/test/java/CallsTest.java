import java.util.NoSuchElementException;

/** The promises 13 to 25: calls and their line. */
public final class CallsTest {
    private static final Class<IndexOutOfBoundsException> NO_INDEX = IndexOutOfBoundsException.class;
    private static final Class<IllegalArgumentException> NO_ARGUMENT = IllegalArgumentException.class;
    private static final Class<IllegalStateException> NO_STATE = IllegalStateException.class;
    private static final Class<NoSuchElementException> NO_ELEMENT = NoSuchElementException.class;

    private final Due due = new Due();

    public static void main(String[] args) {
        CallsTest test = new CallsTest();
        test.promise13Call();
        test.promise13CallFails();
        test.promise13MostOpenCalls();
        test.promise13MostCalls();
        test.promise13Channels();
        test.promise13BreakingInOnStations();
        test.promise13BreakingInOnChannels();
        test.promise13OfSeveralTheLatest();
        test.promise13WhoCannotBreakIn();
        test.promise13InterruptedTakeTheirTurn();
        test.promise14Cancel();
        test.promise15Raise();
        test.promise15RaiseFails();
        test.promise16StateOf();
        test.promise17UrgencyOf();
        test.promise18LeftOf();
        test.promise19ChannelOf();
        test.promise20Interruptions();
        test.promise21SpeakerOn();
        test.promise22Calls();
        test.promise23Waiting();
        test.promise24InLine();
        test.promise25InLineByCounting();
        test.due.close("CallsTest");
    }

    private void promise13Call() {
        FoghornExchange x = Coasts.harbour();
        due.is("13 the first", 0, () -> x.call(0, 1, 'r', 1));
        due.is("13 the second", 1, () -> x.call(2, 3, 'd', 30));
        due.is("13 the third", 2, () -> x.call(0, 4, 's', 5));
        due.is("13 begins", 's', () -> x.stateOf(0));
        due.is("13 waits for the station", 'w', () -> x.stateOf(2));
        due.same("13 the log", "p0 b0 p1 b1 p2", Coasts.latest(x, 5));
    }

    private void promise13CallFails() {
        FoghornExchange x = Coasts.harbour();
        x.call(0, 1, 'r', 5);
        due.failsAndKeeps(x, "13 no station 10", NO_INDEX, () -> x.call(10, 1, 'r', 1));
        due.failsAndKeeps(x, "13 no other -1", NO_INDEX, () -> x.call(1, -1, 'r', 1));
        due.failsAndKeeps(x, "13 no station, and all else wrong", NO_INDEX, () -> x.call(10, 10, 'x', 0));
        due.failsAndKeeps(x, "13 the same", NO_ARGUMENT, () -> x.call(3, 3, 'r', 1));
        for (char urgency : new char[] {'x', 'D', 'e', (char) 0, (char) 1000, (char) 65535}) {
            due.failsAndKeeps(x, "13 urgency " + (int) urgency, NO_ARGUMENT, () -> x.call(2, 3, urgency, 1));
        }
        for (int minutes : new int[] {0, 31, -1, Integer.MIN_VALUE, Integer.MAX_VALUE}) {
            due.failsAndKeeps(x, "13 minutes " + minutes, NO_ARGUMENT, () -> x.call(2, 3, 'r', minutes));
        }
    }

    private void promise13MostOpenCalls() {
        FoghornExchange x = Coasts.at(10, 0, 300, 1);
        x.call(0, 2, 'r', 5);
        Coasts.placeWaiting(x, 22);
        due.is("13 the 24th", 23, () -> x.call(0, 1, 'd', 1));
        due.failsAndKeeps(x, "13 a 25th", NO_STATE, () -> x.call(0, 1, 'd', 1));
        due.failsAndKeeps(x, "13 a 25th, not valid", NO_ARGUMENT, () -> x.call(0, 1, 'x', 1));
        due.failsAndKeeps(x, "13 a 25th, to none", NO_INDEX, () -> x.call(0, 3, 'd', 1));
        x.cancel(5);
        due.is("13 after a cancelling", 24, () -> x.call(0, 1, 'd', 1));
        x.pass(5);
        due.is("13 after an end", 25, () -> x.call(0, 1, 'd', 1));
        due.failsAndKeeps(x, "13 and no more", NO_STATE, () -> x.call(0, 1, 'd', 1));
        FoghornExchange y = Coasts.harbour();
        y.call(2, 3, 'd', 9);
        y.call(4, 5, 'd', 9);
        y.call(6, 7, 'd', 9);
        Coasts.placeWaiting(y, 21);
        due.same("13 all channels are taken", "0 1 2", Coasts.speakers(y));
        due.failsAndKeeps(y, "13 who speaks counts on each channel", NO_STATE, () -> y.call(8, 9, 'd', 1));
    }

    private void promise13MostCalls() {
        FoghornExchange x = Coasts.apart();
        for (int call = 0; call < 150; call++) {
            int want = call;
            due.is("13 call " + call, want, () -> x.call(1, 0, 's', 3));
            x.cancel(call);
        }
        due.failsAndKeeps(x, "13 call 150", NO_STATE, () -> x.call(1, 0, 's', 3));
        due.failsAndKeeps(x, "13 call 150, not valid", NO_ARGUMENT, () -> x.call(1, 0, 's', 31));
        due.is("13 all are there", 'c', () -> x.stateOf(149));
    }

    private void promise13Channels() {
        FoghornExchange x = Coasts.harbour();
        x.call(0, 1, 'r', 9);
        x.call(2, 3, 's', 9);
        x.call(4, 5, 's', 9);
        due.same("13 the others have 1 and 2", "- 0 1", Coasts.speakers(x));
        x.call(6, 7, 'd', 9);
        due.same("13 a distress has 0", "3 0 1", Coasts.speakers(x));
        x.cancel(0);
        due.same("13 who waits takes the free one", "3 2 1", Coasts.speakers(x));
        FoghornExchange y = Coasts.harbour();
        y.call(0, 1, 'u', 9);
        y.call(2, 3, 'u', 9);
        y.call(4, 5, 'u', 9);
        due.same("13 urgencies have all", "0 1 2", Coasts.speakers(y));
        y.cancel(0);
        y.cancel(1);
        y.call(6, 7, 'r', 9);
        due.same("13 a routine leaves 0 free", "- 3 2", Coasts.speakers(y));
    }

    private void promise13BreakingInOnStations() {
        FoghornExchange x = Coasts.harbour();
        x.call(0, 1, 'r', 9);
        x.call(2, 3, 's', 9);
        x.call(2, 1, 'u', 9);
        due.same("13 both interrupted in the order of channels", "p2 i0 i1 b2", Coasts.latest(x, 4));
        due.same("13 on the lowest free channel", "2 - -", Coasts.speakers(x));
        due.same("13 they wait again", "1 0", Coasts.line(x));
        x.pass(1);
        x.call(1, 2, 'd', 2);
        due.same("13 a distress breaks in on an urgency", "p3 i2 b3", Coasts.latest(x, 3));
        due.is("13 with the minutes left", 8, () -> x.leftOf(2));
        FoghornExchange y = Coasts.harbour();
        y.call(0, 1, 'u', 9);
        y.call(2, 3, 'r', 9);
        y.call(1, 2, 'u', 9);
        due.same("13 not if it can't on one of them", "0 1 -", Coasts.speakers(y));
    }

    private void promise13BreakingInOnChannels() {
        FoghornExchange x = Coasts.harbour();
        x.call(0, 1, 'u', 9);
        x.call(2, 3, 's', 9);
        x.call(4, 5, 'r', 9);
        x.call(6, 7, 'u', 9);
        due.same("13 the least urgent makes room", "p3 i2 b3", Coasts.latest(x, 3));
        due.same("13 on its channel", "0 1 3", Coasts.speakers(x));
        x.call(8, 9, 'd', 9);
        due.same("13 then the safety", "0 4 3", Coasts.speakers(x));
        x.call(2, 3, 'd', 9);
        due.same("13 then the urgency that began last", "0 4 5", Coasts.speakers(x));
        FoghornExchange y = Coasts.harbour();
        y.call(0, 1, 'u', 9);
        y.call(2, 3, 's', 9);
        y.call(4, 5, 'r', 9);
        y.call(2, 6, 'u', 9);
        due.same("13 who must go for a station frees a channel", "0 3 2", Coasts.speakers(y));
        due.same("13 nobody else is interrupted", "p3 i1 b3", Coasts.latest(y, 3));
    }

    private void promise13OfSeveralTheLatest() {
        FoghornExchange x = Coasts.harbour();
        x.call(0, 1, 's', 9);
        x.call(2, 3, 's', 9);
        x.call(4, 5, 'u', 9);
        x.call(6, 7, 'u', 9);
        due.same("13 the safety that began last", "p3 i1 b3", Coasts.latest(x, 3));
        FoghornExchange y = Coasts.harbour();
        y.call(0, 1, 's', 9);
        y.call(2, 3, 's', 9);
        y.call(4, 5, 'u', 9);
        y.setOn(0, false);
        y.setOn(0, true);
        due.same("13 begun again", "2 0 1", Coasts.speakers(y));
        y.call(6, 7, 'd', 9);
        due.same("13 its latest beginning counts", "p3 i0 b3", Coasts.latest(y, 3));
        FoghornExchange z = Coasts.harbour();
        z.call(0, 1, 'u', 9);
        z.call(2, 3, 'u', 9);
        z.call(4, 5, 'u', 9);
        z.setOn(0, false);
        z.setOn(0, true);
        z.call(6, 7, 'd', 9);
        due.same("13 it may be on channel 0", "3 1 2", Coasts.speakers(z));
    }

    private void promise13WhoCannotBreakIn() {
        FoghornExchange x = Coasts.harbour();
        x.call(0, 1, 'r', 9);
        x.call(0, 2, 's', 9);
        due.is("13 a safety on a station of a routine", 'w', () -> x.stateOf(1));
        x.call(4, 5, 'r', 9);
        x.call(6, 7, 's', 9);
        due.same("13 a safety on a channel of a routine", "- 0 2", Coasts.speakers(x));
        FoghornExchange y = Coasts.harbour();
        y.call(0, 1, 'd', 9);
        y.call(0, 2, 'd', 9);
        y.call(1, 3, 'u', 9);
        due.same("13 nor an equal or a greater one", "0 - -", Coasts.speakers(y));
        y.call(4, 5, 'd', 9);
        y.call(6, 7, 'd', 9);
        y.call(8, 9, 'd', 9);
        due.same("13 nor on channels of equals", "0 3 4", Coasts.speakers(y));
        due.is("13 in order", true, y::isInOrder);
    }

    private void promise13InterruptedTakeTheirTurn() {
        FoghornExchange x = Coasts.harbour();
        x.call(0, 1, 'u', 9);
        x.call(2, 3, 'r', 9);
        x.call(4, 5, 'r', 9);
        x.call(0, 1, 'd', 9);
        due.same("13 the urgency is broken in on", "3 1 2", Coasts.speakers(x));
        x.call(6, 7, 's', 9);
        x.call(8, 9, 'u', 9);
        due.same("13 channel 2 began last", "3 1 5", Coasts.speakers(x));
        FoghornExchange y = Coasts.at(100, 0, 1, 2, 3, 4, 5);
        y.call(0, 1, 'u', 9);
        y.call(2, 3, 'u', 9);
        y.call(4, 5, 'r', 9);
        y.call(0, 2, 'd', 9);
        due.same("13 two urgencies give way", "3 - 2", Coasts.speakers(y));
        FoghornExchange z = Coasts.at(50, 0, 50, 100, 50);
        z.call(0, 2, 's', 9);
        z.call(1, 0, 'd', 9);
        due.same("13 no relay helps while its end is taken", "0", Coasts.line(z));
        z.cancel(1);
        due.same("13 it speaks again", "- 0 -", Coasts.speakers(z));
        FoghornExchange w = Coasts.at(100, 0, 1, 2, 3, 4, 5, 6, 7);
        w.call(0, 1, 's', 9);
        w.call(2, 3, 'u', 9);
        w.call(4, 5, 'u', 9);
        w.call(6, 7, 'd', 9);
        due.same("13 the safety gave way first", "1 3 2", Coasts.speakers(w));
        w.call(2, 0, 'd', 9);
        due.same("13 an interrupted urgency finds no room among these", "4 3 2", Coasts.speakers(w));
        FoghornExchange v = Coasts.at(100, 0, 1, 2, 3, 4, 5, 6, 7);
        v.call(0, 1, 'u', 9);
        v.call(2, 3, 'r', 9);
        v.call(4, 5, 'u', 9);
        due.same("13 three speak", "0 1 2", Coasts.speakers(v));
        v.setOn(0, false);
        v.call(6, 7, 'r', 9);
        v.setOn(0, true);
        due.same("13 back to the free channel", "0 1 2", Coasts.speakers(v));
        v.cancel(1);
        due.same("13 the routine begins on 1", "0 3 2", Coasts.speakers(v));
        v.raise(2, 'd');
        v.call(2, 0, 'd', 9);
        due.same("13 the turn of the interrupted one comes", "p4 i0 b4", Coasts.latest(v, 3));
        v.call(0, 1, 'd', 9);
        due.same("13 a distress waits for an equal one", "5 0", Coasts.line(v));
        v.cancel(4);
        due.same("13 after a cancelling the first of the line", "5 3 2", Coasts.speakers(v));
    }

    private void promise14Cancel() {
        FoghornExchange x = Coasts.harbour();
        x.call(0, 1, 'r', 9);
        x.call(0, 2, 'r', 8);
        x.call(0, 3, 'r', 7);
        x.pass(2);
        due.is("14 one that waits", 8, () -> x.cancel(1));
        due.same("14 the line", "2", Coasts.line(x));
        due.is("14 one that speaks", 7, () -> x.cancel(0));
        due.same("14 the next one begins after it", "c1 c0 b2", Coasts.latest(x, 3));
        due.is("14 its state", 'c', () -> x.stateOf(0));
        due.is("14 its minutes", 7, () -> x.leftOf(0));
        x.pass(7);
        due.is("14 its minutes stay", 7, () -> x.leftOf(0));
        due.failsAndKeeps(x, "14 cancelled already", NO_STATE, () -> x.cancel(0));
        due.failsAndKeeps(x, "14 has ended", NO_STATE, () -> x.cancel(2));
        due.failsAndKeeps(x, "14 no call 3", NO_ELEMENT, () -> x.cancel(3));
        due.failsAndKeeps(x, "14 no call -1", NO_ELEMENT, () -> x.cancel(-1));
    }

    private void promise15Raise() {
        FoghornExchange x = Coasts.harbour();
        x.call(0, 1, 'r', 9);
        x.call(0, 2, 'r', 9);
        x.call(0, 3, 'r', 9);
        due.is("15 from routine", 'r', () -> x.raise(2, 's'));
        due.same("15 it comes ahead", "2 1", Coasts.line(x));
        due.is("15 from safety", 's', () -> x.raise(2, 'u'));
        due.same("15 it breaks in", "i0 b2", Coasts.latest(x, 2));
        due.is("15 a speaker goes on", 'u', () -> x.raise(2, 'd'));
        due.same("15 on its channel", "2 - -", Coasts.speakers(x));
        due.is("15 its urgency", 'd', () -> x.urgencyOf(2));
        FoghornExchange y = Coasts.harbour();
        y.call(0, 1, 'r', 9);
        y.raise(0, 'd');
        due.same("15 a speaker keeps its channel", "- 0 -", Coasts.speakers(y));
        y.call(0, 2, 'u', 9);
        due.is("15 and can't be broken in on", 'w', () -> y.stateOf(1));
        due.is("15 it was never interrupted", 0, () -> y.interruptions(0));
        due.is("15 in order", true, y::isInOrder);
    }

    private void promise15RaiseFails() {
        FoghornExchange x = Coasts.harbour();
        x.call(0, 1, 'u', 9);
        x.call(0, 2, 's', 9);
        x.call(3, 4, 'r', 1);
        x.call(5, 6, 'r', 9);
        x.cancel(3);
        x.pass(1);
        due.failsAndKeeps(x, "15 no call 4", NO_ELEMENT, () -> x.raise(4, 'd'));
        due.failsAndKeeps(x, "15 no call -1, no urgency", NO_ELEMENT, () -> x.raise(-1, 'x'));
        due.failsAndKeeps(x, "15 no such urgency", NO_ARGUMENT, () -> x.raise(1, 'x'));
        due.failsAndKeeps(x, "15 not to routine", NO_ARGUMENT, () -> x.raise(1, 'r'));
        due.failsAndKeeps(x, "15 ended, and no such urgency", NO_ARGUMENT, () -> x.raise(2, (char) 0));
        due.failsAndKeeps(x, "15 equal", NO_STATE, () -> x.raise(0, 'u'));
        due.failsAndKeeps(x, "15 less", NO_STATE, () -> x.raise(0, 's'));
        due.failsAndKeeps(x, "15 equal, and waits", NO_STATE, () -> x.raise(1, 's'));
        due.failsAndKeeps(x, "15 has ended", NO_STATE, () -> x.raise(2, 'd'));
        due.failsAndKeeps(x, "15 was cancelled", NO_STATE, () -> x.raise(3, 'd'));
    }

    private void promise16StateOf() {
        FoghornExchange x = fourStates();
        due.is("16 waits", 'w', () -> x.stateOf(1));
        due.is("16 speaks", 's', () -> x.stateOf(0));
        due.is("16 has ended", 'e', () -> x.stateOf(2));
        due.is("16 was cancelled", 'c', () -> x.stateOf(3));
        due.failsAndKeeps(x, "16 no call 4", NO_ELEMENT, () -> x.stateOf(4));
        due.failsAndKeeps(x, "16 no call -1", NO_ELEMENT, () -> x.stateOf(-1));
        due.failsAndKeeps(x, "16 no greatest", NO_ELEMENT, () -> x.stateOf(Integer.MAX_VALUE));
    }

    private void promise17UrgencyOf() {
        FoghornExchange x = fourStates();
        due.is("17 routine", 'r', () -> x.urgencyOf(2));
        due.is("17 safety", 's', () -> x.urgencyOf(1));
        due.is("17 urgency", 'u', () -> x.urgencyOf(0));
        due.is("17 distress", 'd', () -> x.urgencyOf(3));
        x.raise(1, 'd');
        due.is("17 raised", 'd', () -> x.urgencyOf(1));
        due.failsAndKeeps(x, "17 no call 4", NO_ELEMENT, () -> x.urgencyOf(4));
        due.failsAndKeeps(x, "17 no call -1", NO_ELEMENT, () -> x.urgencyOf(-1));
    }

    private void promise18LeftOf() {
        FoghornExchange x = fourStates();
        due.is("18 waits", 8, () -> x.leftOf(1));
        due.is("18 speaks", 8, () -> x.leftOf(0));
        due.is("18 has ended", 0, () -> x.leftOf(2));
        due.is("18 was cancelled", 6, () -> x.leftOf(3));
        x.pass(3);
        due.is("18 it goes on", 5, () -> x.leftOf(0));
        due.failsAndKeeps(x, "18 no call 4", NO_ELEMENT, () -> x.leftOf(4));
        due.failsAndKeeps(x, "18 no call -1", NO_ELEMENT, () -> x.leftOf(-1));
    }

    private void promise19ChannelOf() {
        FoghornExchange x = fourStates();
        due.is("19 speaks", 0, () -> x.channelOf(0));
        due.failsAndKeeps(x, "19 waits", NO_STATE, () -> x.channelOf(1));
        due.failsAndKeeps(x, "19 has ended", NO_STATE, () -> x.channelOf(2));
        due.failsAndKeeps(x, "19 was cancelled", NO_STATE, () -> x.channelOf(3));
        due.failsAndKeeps(x, "19 no call 4", NO_ELEMENT, () -> x.channelOf(4));
        due.failsAndKeeps(x, "19 no call -1", NO_ELEMENT, () -> x.channelOf(-1));
        x.call(3, 4, 'r', 1);
        x.call(5, 6, 'r', 1);
        due.is("19 the next", 1, () -> x.channelOf(4));
        due.is("19 the last", 2, () -> x.channelOf(5));
    }

    private void promise20Interruptions() {
        FoghornExchange x = Coasts.harbour();
        x.call(0, 1, 'r', 9);
        due.is("20 never", 0, () -> x.interruptions(0));
        x.call(1, 2, 'd', 1);
        due.is("20 broken in on", 1, () -> x.interruptions(0));
        x.pass(1);
        due.is("20 speaks again", 's', () -> x.stateOf(0));
        x.setOn(0, false);
        due.is("20 set off", 2, () -> x.interruptions(0));
        x.cancel(0);
        due.is("20 cancelling is none", 2, () -> x.interruptions(0));
        due.is("20 ending is none", 0, () -> x.interruptions(1));
        due.failsAndKeeps(x, "20 no call 2", NO_ELEMENT, () -> x.interruptions(2));
        due.failsAndKeeps(x, "20 no call -1", NO_ELEMENT, () -> x.interruptions(-1));
    }

    private void promise21SpeakerOn() {
        FoghornExchange x = Coasts.harbour();
        x.call(0, 1, 's', 9);
        x.call(2, 3, 'd', 9);
        due.is("21 channel 0", 1, () -> x.speakerOn(0));
        due.is("21 channel 1", 0, () -> x.speakerOn(1));
        due.failsAndKeeps(x, "21 nobody on channel 2", NO_ELEMENT, () -> x.speakerOn(2));
        due.failsAndKeeps(x, "21 no channel 3", NO_INDEX, () -> x.speakerOn(3));
        due.failsAndKeeps(x, "21 no channel -1", NO_INDEX, () -> x.speakerOn(-1));
        x.cancel(0);
        due.failsAndKeeps(x, "21 cancelled", NO_ELEMENT, () -> x.speakerOn(1));
    }

    private void promise22Calls() {
        FoghornExchange x = fourStates();
        due.is("22 all that were placed", 4, x::calls);
        due.fails("22 a wrong one", NO_ARGUMENT, () -> x.call(0, 0, 'r', 1));
        due.is("22 is not placed", 4, x::calls);
        x.call(8, 9, 'r', 1);
        due.is("22 one more", 5, x::calls);
    }

    private void promise23Waiting() {
        FoghornExchange x = fourStates();
        due.is("23 one waits", 1, x::waiting);
        x.call(0, 9, 's', 1);
        due.is("23 two wait", 2, x::waiting);
        x.cancel(0);
        due.is("23 one has begun", 1, x::waiting);
        Coasts.placeWaiting(x, 5);
        due.is("23 five more", 6, x::waiting);
    }

    private void promise24InLine() {
        FoghornExchange x = mixedLine();
        due.same("24 by urgency, then by number", "3 7 2 6 1 5 0 4", Coasts.line(x));
        due.failsAndKeeps(x, "24 no rank 8", NO_ELEMENT, () -> x.inLine(8));
        due.failsAndKeeps(x, "24 no rank -1", NO_ELEMENT, () -> x.inLine(-1));
        due.failsAndKeeps(x, "24 no greatest rank", NO_ELEMENT, () -> x.inLine(Integer.MAX_VALUE));
        x.raise(4, 'u');
        x.cancel(7);
        due.same("24 raised and cancelled", "3 2 4 6 1 5 0", Coasts.line(x));
        due.fails("24 nobody waits", NO_ELEMENT, () -> new FoghornExchange().inLine(0));
    }

    private void promise25InLineByCounting() {
        FoghornExchange x = mixedLine();
        x.raise(4, 'u');
        x.cancel(7);
        int[] want = {3, 2, 4, 6, 1, 5, 0};
        for (int rank = 0; rank < want.length; rank++) {
            int asked = rank;
            due.is("25 rank " + rank, want[rank], () -> x.inLineByCounting(asked));
        }
        due.failsAndKeeps(x, "25 no rank 7", NO_ELEMENT, () -> x.inLineByCounting(7));
        due.failsAndKeeps(x, "25 no rank -1", NO_ELEMENT, () -> x.inLineByCounting(-1));
        due.failsAndKeeps(x, "25 no least rank", NO_ELEMENT, () -> x.inLineByCounting(Integer.MIN_VALUE));
        due.fails("25 nobody waits", NO_ELEMENT, () -> new FoghornExchange().inLineByCounting(0));
    }

    /** Call 0 speaks, 1 waits, 2 has ended, and 3 was cancelled; a minute has passed. */
    private static FoghornExchange fourStates() {
        FoghornExchange x = Coasts.harbour();
        x.call(0, 1, 'u', 9);
        x.call(0, 2, 's', 8);
        x.call(3, 4, 'r', 1);
        x.call(5, 6, 'd', 7);
        x.pass(1);
        x.cancel(3);
        return x;
    }

    /** Eight calls that wait, two of each urgency. */
    private static FoghornExchange mixedLine() {
        FoghornExchange x = Coasts.apart();
        for (int call = 0; call < 8; call++) {
            x.call(0, 1, "rsud".charAt(call % 4), 5);
        }
        return x;
    }
}
