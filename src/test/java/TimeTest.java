import java.util.NoSuchElementException;

/** The promises 26 to 39: time, watches, the log and the totals. */
public final class TimeTest {
    private static final Class<IndexOutOfBoundsException> NO_INDEX = IndexOutOfBoundsException.class;
    private static final Class<IllegalArgumentException> NO_ARGUMENT = IllegalArgumentException.class;
    private static final Class<IllegalStateException> NO_STATE = IllegalStateException.class;
    private static final Class<NoSuchElementException> NO_ELEMENT = NoSuchElementException.class;
    private static final Class<ArithmeticException> NO_QUOTIENT = ArithmeticException.class;

    private final Due due = new Due();

    public static void main(String[] args) {
        TimeTest test = new TimeTest();
        test.promise26Pass();
        test.promise26EachMinuteLetsSpeak();
        test.promise26Watches();
        test.promise26WatchCallsHaveLimits();
        test.promise26WatchCallsWaitForTheEndOfTheMinute();
        test.promise27Time();
        test.promise28SetWatch();
        test.promise29Report();
        test.promise30SinceReport();
        test.promise31Missed();
        test.promise32Logged();
        test.promises33To35LogEntries();
        test.promises33To35KeptEntries();
        test.promise36Waited();
        test.promise37MeanWait();
        test.promise38ChannelShare();
        test.promise39IsInOrder();
        test.due.close("TimeTest");
    }

    private void promise26Pass() {
        FoghornExchange x = Coasts.harbour();
        x.call(0, 1, 'r', 2);
        x.call(2, 3, 'r', 2);
        x.call(4, 5, 'd', 2);
        due.is("26 none ends", 0, () -> x.pass(1));
        due.is("26 three end", 3, () -> x.pass(1));
        due.same("26 in the order of the channels", "e2 e0 e1", Coasts.latest(x, 3));
        due.is("26 ten minutes", 0, () -> x.pass(10));
        due.is("26 the time", 12, x::time);
        for (int minutes : new int[] {0, 11, -1, Integer.MIN_VALUE, Integer.MAX_VALUE}) {
            due.failsAndKeeps(x, "26 minutes " + minutes, NO_ARGUMENT, () -> x.pass(minutes));
        }
    }

    private void promise26EachMinuteLetsSpeak() {
        FoghornExchange x = Coasts.harbour();
        x.call(0, 1, 'r', 2);
        x.call(0, 2, 'r', 3);
        x.call(0, 3, 's', 1);
        due.is("26 three end one after the other", 3, () -> x.pass(6));
        due.same("26 the safety goes first", "e0 b2 e2 b1 e1", Coasts.latest(x, 5));
        due.is("26 begun at the end of minute 2", 2, () -> x.logTime(3));
        due.is("26 ended in minute 6", 6, () -> x.logTime(0));
    }

    private void promise26Watches() {
        FoghornExchange x = Coasts.at(50, 0, 10, 20);
        x.setWatch(2, 5);
        x.setWatch(0, 5);
        x.setWatch(1, 5);
        due.is("26 not yet", 0, () -> x.pass(5));
        due.is("26 nothing in the log", 0, x::logged);
        due.is("26 missed after more than 5", 0, () -> x.pass(1));
        due.same("26 in the order of the stations", "m0 m1 p0 m2 p1 b0", Coasts.latest(x, 6));
        due.is("26 the call is from 0", 0, () -> x.busyWith(0));
        due.is("26 to 1", 0, () -> x.busyWith(1));
        due.is("26 it is a safety", 's', () -> x.urgencyOf(0));
        due.is("26 of one minute", 1, () -> x.leftOf(1));
        due.is("26 missing counts as a report", 0, () -> x.sinceReport(2));
        x.setOn(2, false);
        x.pass(10);
        due.is("26 who is off misses none", 1, () -> x.missed(2));
        x.setOn(2, true);
        x.pass(1);
        due.is("26 on again, it is late", 2, () -> x.missed(2));
        FoghornExchange y = Coasts.at(50, 0, 10);
        y.setWatch(0, 5);
        y.pass(10);
        due.is("26 station 0 calls nobody", 0, y::calls);
        due.is("26 though it has missed one", 1, () -> y.missed(0));
        due.is("26 without a watch none is missed", 0, () -> y.missed(1));
    }

    private void promise26WatchCallsHaveLimits() {
        FoghornExchange x = Coasts.apart();
        x.setWatch(1, 5);
        Coasts.placeWaiting(x, 24);
        x.pass(6);
        due.is("26 24 wait", 24, x::calls);
        due.is("26 it is missed all the same", 1, () -> x.missed(1));
        x.cancel(0);
        x.pass(6);
        due.is("26 one of 24 is free", 25, x::calls);
        FoghornExchange y = Coasts.apart();
        for (int call = 0; call < 149; call++) {
            y.call(0, 1, 'r', 1);
            y.cancel(call);
        }
        y.setWatch(1, 5);
        y.pass(6);
        due.is("26 the 150th", 150, y::calls);
        y.pass(6);
        due.is("26 no more than 150", 150, y::calls);
        due.is("26 both were missed", 2, () -> y.missed(1));
        due.is("26 the latest entry", 'm', () -> y.logKind(0));
        FoghornExchange z = Coasts.at(10, 0, 300, 1);
        z.call(0, 2, 'r', 6);
        Coasts.placeWaiting(z, 23);
        z.setWatch(1, 5);
        z.pass(6);
        due.is("26 who ends in this minute makes room", 25, z::calls);
    }

    private void promise26WatchCallsWaitForTheEndOfTheMinute() {
        FoghornExchange x = Coasts.at(50, 0, 10, 20);
        x.setWatch(1, 5);
        x.setWatch(2, 5);
        x.call(0, 1, 's', 6);
        x.call(2, 0, 's', 3);
        x.pass(6);
        due.same("26 ends, watches, then the line", "e0 m1 p2 m2 p3 b1", Coasts.latest(x, 6));
        FoghornExchange y = Coasts.at(50, 0, 10, 20);
        y.setWatch(0, 6);
        y.pass(4);
        y.call(0, 1, 'r', 1);
        due.is("26 the beginning of a call is a report of who calls", 0, () -> y.sinceReport(0));
        y.pass(6);
        due.is("26 so it misses none", 0, () -> y.missed(0));
        y.call(1, 0, 'r', 1);
        due.is("26 not of who is called", 6, () -> y.sinceReport(0));
        y.pass(1);
        due.is("26 who misses one", 1, () -> y.missed(0));
    }

    private void promise27Time() {
        FoghornExchange x = new FoghornExchange();
        due.is("27 at first", 0, x::time);
        x.pass(10);
        x.pass(3);
        due.is("27 passed", 13, x::time);
        x.addStation(0, 1);
        due.is("27 nothing else passes", 13, x::time);
    }

    private void promise28SetWatch() {
        FoghornExchange x = Coasts.at(50, 0, 200);
        due.is("28 none before", 0, () -> x.setWatch(0, 5));
        due.is("28 five before", 5, () -> x.setWatch(0, 60));
        x.pass(9);
        due.is("28 sixty before", 60, () -> x.setWatch(0, 60));
        due.is("28 setting is a report", 0, () -> x.sinceReport(0));
        due.is("28 to none", 60, () -> x.setWatch(0, 0));
        due.is("28 none again", 0, () -> x.setWatch(0, 0));
        x.setOn(1, false);
        due.is("28 of one that is off", 0, () -> x.setWatch(1, 7));
        due.failsAndKeeps(x, "28 no station 2", NO_INDEX, () -> x.setWatch(2, 5));
        due.failsAndKeeps(x, "28 no station -1, and wrong", NO_INDEX, () -> x.setWatch(-1, 4));
        for (int minutes : new int[] {1, 4, 61, -1, -5, Integer.MIN_VALUE, Integer.MAX_VALUE}) {
            due.failsAndKeeps(x, "28 minutes " + minutes, NO_ARGUMENT, () -> x.setWatch(1, minutes));
        }
        due.is("28 none of these was set", 7, () -> x.setWatch(1, 0));
    }

    private void promise29Report() {
        FoghornExchange x = Coasts.at(50, 0, 200);
        due.failsAndKeeps(x, "29 no watch", NO_STATE, () -> x.report(0));
        x.setWatch(0, 9);
        x.pass(4);
        due.is("29 since it was set", 4, () -> x.report(0));
        due.is("29 since just now", 0, () -> x.report(0));
        x.pass(9);
        due.is("29 in time", 9, () -> x.report(0));
        due.is("29 none missed", 0, () -> x.missed(0));
        x.setOn(0, false);
        due.failsAndKeeps(x, "29 off", NO_STATE, () -> x.report(0));
        due.failsAndKeeps(x, "29 no station 2", NO_INDEX, () -> x.report(2));
        due.failsAndKeeps(x, "29 no station -1", NO_INDEX, () -> x.report(-1));
        x.setOn(0, true);
        x.setWatch(0, 0);
        due.failsAndKeeps(x, "29 no watch any more", NO_STATE, () -> x.report(0));
        due.is("29 nothing in the log", 0, x::logged);
    }

    private void promise30SinceReport() {
        FoghornExchange x = Coasts.at(50, 0, 20);
        due.failsAndKeeps(x, "30 no watch", NO_STATE, () -> x.sinceReport(0));
        x.setWatch(0, 60);
        x.pass(7);
        due.is("30 since it was set", 7, () -> x.sinceReport(0));
        due.is("30 asking is no report", 7, () -> x.sinceReport(0));
        x.setOn(0, false);
        due.is("30 of one that is off", 7, () -> x.sinceReport(0));
        x.setOn(0, true);
        x.report(0);
        due.is("30 since a report", 0, () -> x.sinceReport(0));
        x.pass(3);
        x.call(0, 1, 'r', 2);
        due.is("30 since a call began", 0, () -> x.sinceReport(0));
        due.failsAndKeeps(x, "30 no station 2", NO_INDEX, () -> x.sinceReport(2));
        due.failsAndKeeps(x, "30 no station -1", NO_INDEX, () -> x.sinceReport(-1));
        x.pass(1);
        x.setOn(1, false);
        x.pass(1);
        x.setOn(1, true);
        due.is("30 since the call began again", 0, () -> x.sinceReport(0));
    }

    private void promise31Missed() {
        FoghornExchange x = Coasts.at(50, 0, 20);
        x.setWatch(1, 6);
        x.pass(6);
        due.is("31 none yet", 0, () -> x.missed(1));
        x.pass(1);
        due.is("31 one", 1, () -> x.missed(1));
        x.pass(7);
        due.is("31 two", 2, () -> x.missed(1));
        x.setWatch(1, 0);
        x.pass(10);
        due.is("31 none without a watch", 2, () -> x.missed(1));
        due.is("31 of another one", 0, () -> x.missed(0));
        due.failsAndKeeps(x, "31 no station 2", NO_INDEX, () -> x.missed(2));
        due.failsAndKeeps(x, "31 no station -1", NO_INDEX, () -> x.missed(-1));
    }

    private void promise32Logged() {
        FoghornExchange x = Coasts.apart();
        for (int call = 0; call < 40; call++) {
            x.call(0, 1, 'r', 1);
            x.cancel(call);
        }
        due.is("32 those that are not kept count too", 80, x::logged);
        x.move(1, 5);
        x.raise(x.call(0, 1, 'r', 1), 'd');
        due.is("32 placed and begun, raising is no entry", 82, x::logged);
    }

    private void promises33To35LogEntries() {
        FoghornExchange x = Coasts.at(100, 0, 10, 20);
        x.setWatch(2, 5);
        x.call(0, 1, 'r', 9);
        x.pass(1);
        x.call(0, 1, 'u', 2);
        x.pass(2);
        x.cancel(0);
        x.pass(3);
        x.pass(1);
        char[] kinds = {'p', 'b', 'p', 'i', 'b', 'e', 'b', 'c', 'm', 'p', 'b', 'e'};
        int[] times = {0, 0, 1, 1, 1, 3, 3, 3, 6, 6, 6, 7};
        int[] numbers = {0, 0, 1, 0, 1, 1, 0, 0, 2, 2, 2, 2};
        due.is("32 entries", kinds.length, x::logged);
        for (int rank = 0; rank < kinds.length; rank++) {
            int asked = rank;
            int index = kinds.length - 1 - rank;
            due.is("33 time of rank " + rank, times[index], () -> x.logTime(asked));
            due.is("34 kind of rank " + rank, kinds[index], () -> x.logKind(asked));
            due.is("35 number of rank " + rank, numbers[index], () -> x.logNumber(asked));
        }
        noEntry(x, kinds.length);
        noEntry(x, -1);
        noEntry(new FoghornExchange(), 0);
    }

    private void promises33To35KeptEntries() {
        FoghornExchange x = Coasts.apart();
        for (int call = 0; call < 100; call++) {
            x.call(0, 1, 'r', 1);
            x.cancel(call);
            x.pass(1);
            if (call == 29) {
                due.is("33 60 are kept", 0, () -> x.logTime(59));
                due.is("34 60 are kept", 'p', () -> x.logKind(59));
                due.is("35 60 are kept", 0, () -> x.logNumber(59));
            }
        }
        for (int rank = 0; rank < 60; rank++) {
            int asked = rank;
            due.is("33 kept rank " + rank, 99 - rank / 2, () -> x.logTime(asked));
            due.is("34 kept rank " + rank, rank % 2 == 0 ? 'c' : 'p', () -> x.logKind(asked));
            due.is("35 kept rank " + rank, 99 - rank / 2, () -> x.logNumber(asked));
        }
        noEntry(x, 60);
        noEntry(x, Integer.MAX_VALUE);
        noEntry(x, Integer.MIN_VALUE);
    }

    private void noEntry(FoghornExchange x, int rank) {
        due.failsAndKeeps(x, "33 no rank " + rank, NO_ELEMENT, () -> x.logTime(rank));
        due.failsAndKeeps(x, "34 no rank " + rank, NO_ELEMENT, () -> x.logKind(rank));
        due.failsAndKeeps(x, "35 no rank " + rank, NO_ELEMENT, () -> x.logNumber(rank));
    }

    private void promise36Waited() {
        FoghornExchange x = Coasts.harbour();
        x.call(0, 1, 'r', 3);
        x.call(0, 2, 'r', 3);
        x.call(0, 3, 'r', 3);
        x.pass(2);
        due.is("36 two wait two minutes", 4L, x::waited);
        x.cancel(2);
        due.is("36 who is cancelled has waited", 4L, x::waited);
        x.pass(1);
        due.is("36 waiting in its last minute", 5L, x::waited);
        x.call(1, 2, 'd', 1);
        x.pass(2);
        due.is("36 who is interrupted waits again", 6L, x::waited);
    }

    private void promise37MeanWait() {
        FoghornExchange x = Coasts.harbour();
        due.failsAndKeeps(x, "37 no call", NO_QUOTIENT, x::meanWait);
        x.call(0, 1, 'r', 3);
        due.is("37 at once", 0.0, x::meanWait);
        x.call(0, 2, 'r', 4);
        x.call(0, 2, 'r', 1);
        due.is("37 only those that have begun", 0.0, x::meanWait);
        x.pass(3);
        due.is("37 two", 1.5, x::meanWait);
        x.call(2, 4, 'd', 1);
        due.is("37 three", 1.0, x::meanWait);
        x.pass(1);
        due.is("37 the first beginning alone counts", 1.0, x::meanWait);
        x.pass(4);
        due.is("37 four", (0.0 + 3.0 + 0.0 + 8.0) / 4.0, x::meanWait);
        x.call(5, 6, 'r', 1);
        x.call(5, 6, 'r', 1);
        x.pass(1);
        due.is("37 six", 12.0 / 6.0, x::meanWait);
        x.call(7, 8, 'r', 1);
        due.is("37 seven", 12.0 / 7.0, x::meanWait);
        FoghornExchange y = Coasts.apart();
        Coasts.placeWaiting(y, 3);
        y.pass(5);
        due.failsAndKeeps(y, "37 none has begun", NO_QUOTIENT, y::meanWait);
    }

    private void promise38ChannelShare() {
        FoghornExchange x = Coasts.harbour();
        due.failsAndKeeps(x, "38 at the time 0", NO_QUOTIENT, () -> x.channelShare(0));
        due.failsAndKeeps(x, "38 no channel 3, at the time 0", NO_INDEX, () -> x.channelShare(3));
        due.failsAndKeeps(x, "38 no channel -1", NO_INDEX, () -> x.channelShare(-1));
        x.call(0, 1, 'r', 2);
        x.call(2, 3, 'r', 1);
        due.failsAndKeeps(x, "38 still at the time 0", NO_QUOTIENT, () -> x.channelShare(1));
        x.pass(3);
        due.is("38 never", 0.0f, () -> x.channelShare(0));
        due.is("38 two of three", 2.0f / 3.0f, () -> x.channelShare(1));
        due.is("38 one of three", 1.0f / 3.0f, () -> x.channelShare(2));
        due.failsAndKeeps(x, "38 no channel 3", NO_INDEX, () -> x.channelShare(3));
        x.call(0, 1, 'd', 30);
        x.pass(4);
        due.is("38 four of seven", 4.0f / 7.0f, () -> x.channelShare(0));
    }

    private void promise39IsInOrder() {
        FoghornExchange x = Coasts.at(30, 0, 30, 60, 90, 120, 150, 180, 210, 240, 270);
        due.is("39 no calls", true, x::isInOrder);
        for (int call = 0; call < 24; call++) {
            x.call(call % 10, (call * 3 + 1) % 10, "rsud".charAt(call % 4), 1 + call % 5);
            due.is("39 after call " + call, true, x::isInOrder);
        }
        for (int minute = 0; minute < 40; minute++) {
            x.setOn(minute % 10, minute % 3 != 0);
            due.is("39 set in minute " + minute, true, x::isInOrder);
            x.move((minute * 7) % 10, (minute * 31) % 301);
            due.is("39 moved in minute " + minute, true, x::isInOrder);
            x.pass(1);
            due.is("39 in minute " + minute, true, x::isInOrder);
        }
    }
}
