/**
 * The boundary cases that the document names for time, watches, the log and the totals: promises 26 to 39.
 * Each test stands for the sentence above it.
 */
public final class TimeEdgesTest {
    private static final int MOST_CALLS_OF_AN_OBJECT = 512;

    private final Due due = new Due();

    public static void main(String[] args) {
        TimeEdgesTest test = new TimeEdgesTest();
        test.due.runPromises(test, 26, 39);
        test.due.close("TimeEdgesTest");
    }

    /** "the number of minutes, 1 to 10" */
    void promise26MinutesFrom1To10() {
        for (int minutes : Edge.inside(1, 10)) {
            FoghornExchange x = new FoghornExchange();
            due.is("minutes " + minutes, 0, () -> x.pass(minutes));
            due.is("have passed", minutes, x::time);
        }
        FoghornExchange x = new FoghornExchange();
        for (int minutes : Edge.outside(1, 10)) {
            due.fails("minutes " + minutes, Edge.NO_ARGUMENT, () -> x.pass(minutes));
        }
        due.is("none has passed", 0, x::time);
    }

    /** "those that have none left end": in the last of their minutes, neither before nor after it */
    void promise26EndsInItsLastMinute() {
        for (int minutes : Edge.inside(1, 10)) {
            FoghornExchange x = Coasts.at(50, 0, 50);
            x.call(0, 1, 'r', minutes);
            if (minutes > 1) {
                due.is("one minute early", 0, () -> x.pass(minutes - 1));
            }
            due.is("its last minute", 1, () -> x.pass(1));
            due.is("at the time", minutes, () -> x.logTime(0));
            due.is("has ended", 'e', () -> x.logKind(0));
            due.is("once", 0, () -> x.pass(10));
        }
        FoghornExchange y = Coasts.at(50, 0, 50);
        y.call(0, 1, 'r', 30);
        due.is("10 of 30", 0, () -> y.pass(10));
        due.is("20 of 30", 0, () -> y.pass(10));
        due.is("29 of 30", 0, () -> y.pass(9));
        due.is("30 of 30", 1, () -> y.pass(1));
    }

    /** "in the order of their channels" */
    void promise26EndsInTheOrderOfTheChannels() {
        FoghornExchange x = Coasts.harbour();
        x.call(0, 1, 'r', 1);
        x.call(2, 3, 's', 3);
        x.pass(1);
        x.call(0, 1, 's', 2);
        x.call(4, 5, 'u', 2);
        due.same("their channels", "3 2 1", Coasts.speakers(x));
        due.is("all three", 3, () -> x.pass(2));
        due.same("neither by number nor by urgency", "e3 e2 e1", Coasts.latest(x, 3));
    }

    /** "Returns the number of calls that ended": those of each of the minutes, three in a minute and 24 in ten */
    void promise26CountsTheEndsOfAllMinutes() {
        FoghornExchange x = Coasts.harbour();
        for (int call = 0; call < 24; call++) {
            x.call(2 * (call % 3), 2 * (call % 3) + 1, 'd', 1);
        }
        due.is("three in a minute", 3, () -> x.pass(1));
        due.is("18 in six minutes", 18, () -> x.pass(6));
        due.is("the last three", 3, () -> x.pass(10));
        due.is("no more", 0, () -> x.pass(10));
    }

    /** "at the end of each minute": who begins then has its first minute in the next one */
    void promise26BeginsAtTheEndOfAMinute() {
        FoghornExchange x = Coasts.at(50, 0, 50);
        x.call(0, 1, 'r', 1);
        x.call(0, 1, 'r', 1);
        due.is("the first", 1, () -> x.pass(1));
        due.same("the second begins", "e0 b1", Coasts.latest(x, 2));
        due.is("and has its minute", 1, () -> x.leftOf(1));
        due.is("the next minute", 1, () -> x.pass(1));
        due.is("ends at 2", 2, () -> x.logTime(0));
    }

    /** "Then watches are looked at, and then the exchange lets speak." */
    void promise26EndsThenWatchesThenSpeaks() {
        FoghornExchange x = Coasts.at(50, 0, 10, 20);
        x.setWatch(2, 5);
        x.call(0, 1, 's', 6);
        x.call(0, 1, 's', 9);
        x.pass(6);
        due.same("in this order", "e0 m2 p2 b1", Coasts.latest(x, 4));
    }

    /** "each station .. whose latest report was more minutes ago than its watch has": not at its watch, but one later */
    void promise26MissedOneMinuteAfterItsWatch() {
        for (int watch : Edge.inside(5, 60)) {
            FoghornExchange x = Coasts.apart();
            x.setWatch(1, watch);
            passAll(x, watch);
            due.is("in time, " + watch, 0, () -> x.missed(1));
            due.is("nothing is logged", 0, x::logged);
            x.pass(1);
            due.is("too late, " + watch, 1, () -> x.missed(1));
            due.same("is logged", "m1 p0", Coasts.latest(x, 2));
            due.is("at the time", watch + 1, () -> x.logTime(1));
        }
    }

    private static void passAll(FoghornExchange x, int minutes) {
        for (int minute = 0; minute < minutes; minute++) {
            x.pass(1);
        }
    }

    /** "this counts as a report, too": the next one is missed as many minutes later */
    void promise26MissingCountsAsAReport() {
        FoghornExchange x = Coasts.apart();
        x.setWatch(0, 5);
        x.pass(6);
        due.is("missed", 1, () -> x.missed(0));
        due.is("it reports", 0, () -> x.sinceReport(0));
        x.pass(5);
        due.is("in time", 1, () -> x.missed(0));
        x.pass(1);
        due.is("missed again", 2, () -> x.missed(0));
        x.pass(10);
        due.is("once in ten minutes", 3, () -> x.missed(0));
    }

    /** "each station that is on": who is off misses none, and is late in the first minute in which it is on */
    void promise26OffMissesNone() {
        FoghornExchange x = Coasts.apart();
        x.setWatch(1, 5);
        x.pass(5);
        x.setOn(1, false);
        x.pass(10);
        due.is("off", 0, () -> x.missed(1));
        due.is("nothing is placed", 0, x::calls);
        x.setOn(1, true);
        due.is("on, before a minute passes", 0, () -> x.missed(1));
        x.pass(1);
        due.is("on", 1, () -> x.missed(1));
        due.is("once", 0, () -> x.sinceReport(1));
    }

    /** A station without a watch, or whose watch was taken away, misses none. */
    void promise26NoWatchNoMissing() {
        FoghornExchange x = Coasts.apart();
        x.setWatch(1, 5);
        x.pass(5);
        x.setWatch(1, 0);
        x.pass(10);
        due.is("taken away", 0, () -> x.missed(1));
        due.is("never set", 0, () -> x.missed(0));
        due.is("nothing is logged", 0, x::logged);
    }

    /** "If it is not the station 0, the exchange then places a call": to the last one of ten, too */
    void promise26Station0IsNotCalled() {
        FoghornExchange x = Coasts.harbour();
        x.setWatch(0, 5);
        x.pass(6);
        due.same("0 misses its watch", "m0", Coasts.latest(x, x.logged()));
        due.is("and is not called", 0, x::calls);
        x.setWatch(1, 5);
        x.setWatch(9, 5);
        x.pass(6);
        due.same("the others are", "m0 m0 m1 p0 m9 p1 b0", Coasts.latest(x, x.logged()));
        due.is("the station 1", 0, () -> x.busyWith(1));
        x.pass(1);
        due.is("the station 9", 1, () -> x.busyWith(9));
    }

    /** "from the station 0 to it, with the urgency 's' and 1 minute" */
    void promise26WatchCallIsASafetyOfOneMinute() {
        FoghornExchange x = Coasts.at(50, 0, 50, 100);
        x.setWatch(2, 5);
        x.pass(6);
        due.is("a safety", 's', () -> x.urgencyOf(0));
        due.is("of one minute", 1, () -> x.leftOf(0));
        due.is("from 0", 0, () -> x.busyWith(0));
        due.is("over the relay", 0, () -> x.busyWith(1));
        due.is("to 2", 0, () -> x.busyWith(2));
        due.is("it ends", 1, () -> x.pass(1));
        FoghornExchange y = Coasts.at(50, 0, 50);
        y.setWatch(1, 5);
        y.setOn(0, false);
        y.pass(6);
        due.is("it is placed though 0 is off", 'w', () -> y.stateOf(0));
    }

    /** The station 0 is the calling one, so that it reports when the call begins, and not when it is placed. */
    void promise26WatchCallIsAReportOf0() {
        FoghornExchange x = Coasts.at(50, 0, 50);
        x.setWatch(0, 60);
        x.setWatch(1, 5);
        x.pass(10);
        due.is("begun at 6", 4, () -> x.sinceReport(0));
        x.setOn(0, false);
        x.pass(10);
        due.is("placed at 12 and 18", 3, x::calls);
        due.is("but not begun", 14, () -> x.sinceReport(0));
    }

    /** "unless 150 calls have been placed" */
    void promise26WatchCallUnless150() {
        for (int placed = 148; placed <= 150; placed++) {
            FoghornExchange x = Coasts.at(10, 0, 100, 200);
            for (int call = 0; call < placed; call++) {
                x.call(0, 1, 'r', 1);
                x.cancel(call);
            }
            x.setWatch(1, 5);
            x.setWatch(2, 5);
            x.pass(6);
            due.is("of " + placed, 150, x::calls);
            due.is("missed by 1", 1, () -> x.missed(1));
            due.is("missed by 2", 1, () -> x.missed(2));
            String want = new String[] {"m1 p148 m2 p149", "c148 m1 p149 m2", "p149 c149 m1 m2"}[placed - 148];
            due.same("logged", want, Coasts.latest(x, 4));
        }
    }

    /** "or 24 calls wait or speak" */
    void promise26WatchCallUnless24() {
        for (int waiting = 22; waiting <= 24; waiting++) {
            FoghornExchange x = Coasts.at(10, 0, 100, 200);
            Coasts.placeWaiting(x, waiting);
            x.setWatch(1, 5);
            x.setWatch(2, 5);
            x.pass(6);
            due.is("with " + waiting, 24, x::waiting);
            due.is("missed by 1", 1, () -> x.missed(1));
            due.is("missed by 2", 1, () -> x.missed(2));
            String want = new String[] {"m1 p22 m2 p23", "p22 m1 p23 m2", "p22 p23 m1 m2"}[waiting - 22];
            due.same("logged", want, Coasts.latest(x, 4));
        }
    }

    /** Who speaks counts among the 24; who ends in this minute does not any more. */
    void promise26WatchCallWithThoseThatSpeak() {
        for (int minutes = 6; minutes <= 7; minutes++) {
            FoghornExchange x = Coasts.at(10, 0, 10, 100, 200);
            x.call(0, 1, 'd', minutes);
            for (int call = 0; call < 23; call++) {
                x.call(0, 2, 'r', 1);
            }
            x.setWatch(3, 5);
            x.pass(6);
            due.is("with one of " + minutes + " minutes", minutes == 6 ? 25 : 24, x::calls);
            due.is("it is missed", 1, () -> x.missed(3));
        }
    }

    /** "does not let the exchange go through the line at once; it does this once, at the end of the minute" */
    void promise26WatchCallWaitsForTheEndOfTheMinute() {
        FoghornExchange x = Coasts.at(50, 0, 10, 20);
        x.setWatch(1, 5);
        x.setWatch(2, 5);
        x.pass(6);
        due.same("all watches first", "m1 p0 m2 p1 b0", Coasts.latest(x, x.logged()));
        FoghornExchange y = Coasts.at(50, 0, 10, 20);
        y.call(0, 1, 's', 6);
        y.setWatch(1, 5);
        y.call(0, 2, 'u', 30);
        y.call(0, 2, 'd', 6);
        y.pass(6);
        due.same("one turn each, the urgency first", "e2 m1 p3 b1", Coasts.latest(y, 4));
        due.same("the others wait by number", "0 3", Coasts.line(y));
    }

    /** "When a minute passes, the time increases by 1", as far as 512 calls can bring it. */
    void promise27TimeOf512Calls() {
        FoghornExchange x = Coasts.at(10, 0, 300);
        due.is("at first", 0, x::time);
        Coasts.placeWaiting(x, 24);
        x.setWatch(0, 5);
        x.setWatch(1, 60);
        int calls = 2 + 1 + 24 + 2;
        int passes = MOST_CALLS_OF_AN_OBJECT - calls - 7;
        for (int pass = 0; pass < passes; pass++) {
            x.pass(10);
        }
        int minutes = 10 * passes;
        due.is("time", minutes, x::time);
        due.is("waited", 24L * minutes, x::waited);
        due.is("missed by 0", minutes / 6, () -> x.missed(0));
        due.is("missed by 1", minutes / 61, () -> x.missed(1));
        due.is("logged", 24 + minutes / 6 + minutes / 61, x::logged);
        due.is("never spoken", 0.0f, () -> x.channelShare(1));
        due.is("the 512th call", true, x::isInOrder);
    }

    /** The time neither goes on by anything but pass, nor by one that is refused. */
    void promise27OnlyPassedMinutes() {
        FoghornExchange x = Coasts.at(50, 0, 50);
        x.call(0, 1, 'r', 1);
        x.cancel(0);
        x.setOn(0, false);
        due.fails("0 minutes", Edge.NO_ARGUMENT, () -> x.pass(0));
        due.fails("11 minutes", Edge.NO_ARGUMENT, () -> x.pass(11));
        due.is("no time", 0, x::time);
        x.pass(1);
        due.is("one", 1, x::time);
        x.pass(10);
        due.is("eleven", 11, x::time);
    }

    /** "the minutes of its watch, 5 to 60, or 0 for no watch" */
    void promise28Minutes5To60Or0() {
        FoghornExchange x = Coasts.apart();
        int before = 0;
        for (int minutes : new int[] {5, 6, 59, 60, 0}) {
            int was = before;
            due.is("set to " + minutes, was, () -> x.setWatch(1, minutes));
            before = minutes;
        }
        x.setWatch(1, 60);
        for (int minutes : new int[] {-60, -5, -1, 1, 2, 3, 4, 61, 65, 300, Integer.MIN_VALUE, Integer.MAX_VALUE}) {
            due.fails("set to " + minutes, Edge.NO_ARGUMENT, () -> x.setWatch(1, minutes));
        }
        due.is("stays", 60, () -> x.setWatch(1, 0));
    }

    /** "Throws IndexOutOfBoundsException if there is no such station" comes first */
    void promise28NoSuchStation() {
        FoghornExchange x = new FoghornExchange();
        due.fails("of none", Edge.NO_INDEX, () -> x.setWatch(0, 5));
        x.addStation(0, 50);
        due.is("the only one", 0, () -> x.setWatch(0, 5));
        for (int station : Edge.outside(0, 0)) {
            due.fails("station " + station, Edge.NO_INDEX, () -> x.setWatch(station, 5));
            due.fails("and minutes", Edge.NO_INDEX, () -> x.setWatch(station, 4));
        }
        FoghornExchange y = Coasts.harbour();
        due.is("the tenth", 0, () -> y.setWatch(9, 60));
        due.fails("none behind ten", Edge.NO_INDEX, () -> y.setWatch(10, 60));
    }

    /** "It reports .. when its watch is set": again, longer or shorter, and one that is off, too */
    void promise28SettingIsAReport() {
        FoghornExchange x = Coasts.apart();
        x.setWatch(1, 5);
        x.pass(5);
        x.setWatch(1, 5);
        x.pass(5);
        due.is("set again in time", 0, () -> x.missed(1));
        due.is("since it was set", 5, () -> x.sinceReport(1));
        x.setOn(1, false);
        x.setWatch(1, 60);
        due.is("set while off", 0, () -> x.sinceReport(1));
    }

    /** A setting that is refused is no report. */
    void promise28RefusedIsNoReport() {
        FoghornExchange x = Coasts.apart();
        x.setWatch(1, 5);
        x.pass(5);
        due.fails("4 minutes", Edge.NO_ARGUMENT, () -> x.setWatch(1, 4));
        due.is("no report", 5, () -> x.sinceReport(1));
        x.pass(1);
        due.is("missed", 1, () -> x.missed(1));
    }

    /** "Throws IndexOutOfBoundsException if there is no such station" */
    void promise29NoSuchStation() {
        FoghornExchange x = Coasts.harbour();
        for (int station = 0; station < 10; station++) {
            x.setWatch(station, 5);
        }
        due.is("the first", 0, () -> x.report(0));
        due.is("the last", 0, () -> x.report(9));
        for (int station : Edge.outside(0, 9)) {
            due.fails("station " + station, Edge.NO_INDEX, () -> x.report(station));
        }
        due.fails("of none", Edge.NO_INDEX, () -> new FoghornExchange().report(0));
    }

    /** "Throws IllegalStateException if it is off or has no watch": one of both, or both */
    void promise29OffOrNoWatch() {
        for (int state = 0; state < 4; state++) {
            FoghornExchange x = Coasts.apart();
            x.setOn(1, (state & 1) == 0);
            x.setWatch(1, (state & 2) == 0 ? 5 : 0);
            x.pass(3);
            if (state == 0) {
                due.is("on, with a watch", 3, () -> x.report(1));
            } else {
                due.fails("state " + state, Edge.NO_STATE, () -> x.report(1));
            }
        }
    }

    /** "Returns the minutes since its latest report": from 0 up to its watch, and more while it is off */
    void promise29MinutesSinceTheLatestReport() {
        FoghornExchange x = Coasts.apart();
        x.setWatch(1, 5);
        due.is("none", 0, () -> x.report(1));
        x.pass(5);
        due.is("all of its watch", 5, () -> x.report(1));
        x.pass(5);
        due.is("again", 5, () -> x.report(1));
        x.setOn(1, false);
        x.pass(10);
        x.setOn(1, true);
        due.is("after it was off", 10, () -> x.report(1));
        x.pass(1);
        due.is("none was missed", 0, () -> x.missed(1));
    }

    /** A report that is refused is none. */
    void promise29RefusedIsNoReport() {
        FoghornExchange x = Coasts.apart();
        x.setWatch(1, 5);
        x.pass(5);
        x.setOn(1, false);
        due.fails("off", Edge.NO_STATE, () -> x.report(1));
        x.setOn(1, true);
        due.is("no report", 5, () -> x.sinceReport(1));
        x.pass(1);
        due.is("missed", 1, () -> x.missed(1));
    }

    /** "Throws IndexOutOfBoundsException if there is no such station", "IllegalStateException if it has no watch" */
    void promise30NoSuchStationOrNoWatch() {
        FoghornExchange x = Coasts.harbour();
        x.setWatch(0, 5);
        x.setWatch(9, 60);
        due.is("the first", 0, () -> x.sinceReport(0));
        due.is("the last", 0, () -> x.sinceReport(9));
        due.fails("without a watch", Edge.NO_STATE, () -> x.sinceReport(1));
        for (int station : Edge.outside(0, 9)) {
            due.fails("station " + station, Edge.NO_INDEX, () -> x.sinceReport(station));
        }
        x.setWatch(9, 0);
        due.fails("its watch is taken away", Edge.NO_STATE, () -> x.sinceReport(9));
        x.setOn(0, false);
        due.is("off, with a watch", 0, () -> x.sinceReport(0));
    }

    /** "when a call of which it is the calling station begins": also the second time, and none of the others reports */
    void promise30SinceACallBegan() {
        FoghornExchange x = Coasts.at(50, 0, 50, 100);
        for (int station = 0; station < 3; station++) {
            x.setWatch(station, 60);
        }
        x.pass(4);
        x.setOn(1, false);
        x.call(0, 2, 'r', 9);
        due.is("it only waits", 4, () -> x.sinceReport(0));
        x.setOn(1, true);
        due.is("it begins", 0, () -> x.sinceReport(0));
        due.is("not the relay", 4, () -> x.sinceReport(1));
        due.is("nor who is called", 4, () -> x.sinceReport(2));
        x.pass(2);
        x.setOn(2, false);
        due.is("interrupted", 2, () -> x.sinceReport(0));
        x.setOn(2, true);
        due.is("begun again", 0, () -> x.sinceReport(0));
        x.pass(7);
        due.is("ended", 7, () -> x.sinceReport(0));
    }

    /** A beginning counts though no watch was set then; a watch that is set later reports anew. */
    void promise30WatchSetAfterACallBegan() {
        FoghornExchange x = Coasts.at(50, 0, 50);
        x.call(0, 1, 'r', 9);
        x.pass(3);
        due.is("none before", 0, () -> x.setWatch(0, 5));
        due.is("since it was set", 0, () -> x.sinceReport(0));
        x.pass(5);
        due.is("at its watch", 5, () -> x.sinceReport(0));
        x.pass(1);
        due.is("missed", 0, () -> x.sinceReport(0));
    }

    /** "Throws IndexOutOfBoundsException if there is no such station" */
    void promise31NoSuchStation() {
        FoghornExchange x = Coasts.harbour();
        due.is("the first", 0, () -> x.missed(0));
        due.is("the last", 0, () -> x.missed(9));
        for (int station : Edge.outside(0, 9)) {
            due.fails("station " + station, Edge.NO_INDEX, () -> x.missed(station));
        }
        due.fails("of none", Edge.NO_INDEX, () -> new FoghornExchange().missed(0));
    }

    /** "Returns how many watches a station has missed": off, or without a watch, it keeps its number */
    void promise31StaysWithoutAWatch() {
        FoghornExchange x = Coasts.apart();
        x.setWatch(1, 5);
        x.pass(6);
        x.pass(6);
        x.setOn(1, false);
        due.is("off", 2, () -> x.missed(1));
        x.setWatch(1, 0);
        due.is("without a watch", 2, () -> x.missed(1));
        due.is("of the other one", 0, () -> x.missed(0));
    }

    /** "the number of entries of the log so far", those that are not kept too */
    void promise32CountsBeyondThoseThatAreKept() {
        for (int entries : new int[] {0, 1, 59, 60, 61, 119, 120, 121}) {
            FoghornExchange x = withEntries(entries);
            due.is("entries " + entries, entries, x::logged);
        }
    }

    /**
     * So many entries, two for each call: it is placed, and cancelled, and then a minute passes; the last
     * call is placed alone if the number is odd.
     */
    private static FoghornExchange withEntries(int entries) {
        FoghornExchange x = Coasts.apart();
        for (int call = 0; 2 * call < entries; call++) {
            x.call(0, 1, 'r', 1);
            if (2 * call + 1 < entries) {
                x.cancel(call);
                x.pass(1);
            }
        }
        return x;
    }

    /** "The latest 60 entries are kept", around 60, and where they go round a second and a third time. */
    void promise33The60LatestAreKept() {
        the60LatestAreKept(x -> x::logTime, entry -> entry / 2);
    }

    void promise34The60LatestAreKept() {
        the60LatestAreKept(x -> x::logKind, entry -> entry % 2 == 0 ? 'p' : 'c');
    }

    void promise35The60LatestAreKept() {
        the60LatestAreKept(x -> x::logNumber, entry -> entry / 2);
    }

    private void the60LatestAreKept(Edge.Asked asked, Edge.Question want) {
        for (int entries : new int[] {0, 1, 2, 59, 60, 61, 119, 120, 121, 180, 181}) {
            Edge.Question log = asked.on(withEntries(entries));
            int kept = Math.min(entries, 60);
            for (int rank = 0; rank < kept; rank++) {
                int ofRank = rank;
                due.is("rank " + rank + " of " + entries, want.of(entries - 1 - rank), () -> log.of(ofRank));
            }
            for (int rank : Edge.outside(0, kept - 1)) {
                due.fails("rank " + rank + " of " + entries, Edge.NO_ELEMENT, () -> log.of(rank));
            }
        }
    }

    /** "Returns 'p', 'b', 'i', 'e', 'c' or 'm'": each of them where it happens, with its number and its time */
    void promise34EachKind() {
        FoghornExchange x = Coasts.at(50, 0, 50, 50);
        x.setWatch(2, 5);
        x.pass(2);
        entry(x, 0, () -> x.call(0, 1, 'r', 1), "p0 b0");
        entry(x, 1, () -> x.setOn(1, false), "i0");
        entry(x, 2, () -> x.setOn(1, true), "b0");
        entry(x, 3, () -> x.pass(1), "e0");
        x.call(1, 0, 'r', 1);
        entry(x, 4, () -> x.cancel(1), "c1");
        x.setOn(0, false);
        x.pass(2);
        entry(x, 5, () -> x.pass(1), "m2 p2");
        due.is("at the time", 6, () -> x.logTime(0));
        due.is("the cancelled one at the time", 3, () -> x.logTime(2));
        due.is("the begun one at the time", 2, () -> x.logTime(6));
    }

    private void entry(FoghornExchange x, int number, Due.Call call, String want) {
        int before = x.logged();
        Due.answerOf(call);
        due.same("entries of call " + number, want, Coasts.latest(x, x.logged() - before));
    }

    /** What is no placing, beginning, interruption, end, cancelling or missed watch has no entry. */
    void promise32NothingElseIsLogged() {
        FoghornExchange x = Coasts.at(50, 0, 50);
        x.setOn(1, false);
        x.setOn(1, true);
        x.move(1, 60);
        x.setWatch(1, 5);
        x.report(1);
        x.pass(5);
        due.fails("a refused call", Edge.NO_ARGUMENT, () -> x.call(0, 1, 'x', 1));
        due.is("nothing", 0, x::logged);
        x.call(0, 1, 'r', 1);
        x.raise(0, 'd');
        due.is("placed alone", 1, x::logged);
    }

    /** "each call that waits has waited one minute more": whoever waited in it, however it goes on */
    void promise36EachMinuteOfEachThatWaits() {
        FoghornExchange x = Coasts.at(50, 0, 50);
        due.is("none", 0L, x::waited);
        x.call(0, 1, 'r', 1);
        x.pass(1);
        due.is("who speaks does not wait", 0L, x::waited);
        x.call(0, 1, 'r', 1);
        x.call(0, 1, 'r', 1);
        x.pass(1);
        due.is("who begins at the end of the minute has waited in it", 1L, x::waited);
        x.setOn(0, false);
        x.pass(10);
        due.is("who is interrupted waits", 11L, x::waited);
        x.cancel(2);
        due.is("who is cancelled has waited", 11L, x::waited);
        x.pass(10);
        due.is("and waits no more", 11L, x::waited);
    }

    /** A call that is placed for a missed watch waits from the next minute on; 24 wait 24 minutes in each. */
    void promise36FromNoneTo24() {
        FoghornExchange x = Coasts.apart();
        x.setWatch(1, 60);
        passAll(x, 61);
        due.is("placed in this minute", 0L, x::waited);
        x.pass(1);
        due.is("the next minute", 1L, x::waited);
        Coasts.placeWaiting(x, 23);
        x.pass(10);
        due.is("24 in ten minutes", 241L, x::waited);
    }

    /** "Throws ArithmeticException if no call has begun": none, one that waits, one that was cancelled in the line */
    void promise37NoneHasBegun() {
        FoghornExchange x = Coasts.apart();
        due.fails("no call", Edge.NO_QUOTIENT, x::meanWait);
        x.call(0, 1, 'r', 1);
        x.pass(1);
        due.fails("it waits", Edge.NO_QUOTIENT, x::meanWait);
        x.cancel(0);
        due.fails("it was cancelled", Edge.NO_QUOTIENT, x::meanWait);
        x.call(0, 1, 'r', 1);
        x.pass(7);
        x.move(1, 10);
        due.is("one has begun", 7.0, x::meanWait);
        x.pass(1);
        due.is("and has ended", 7.0, x::meanWait);
    }

    /** ".. to its first beginning, over the calls that have begun" */
    void promise37FirstBeginningAlone() {
        FoghornExchange x = Coasts.at(50, 0, 50);
        x.call(0, 1, 'r', 9);
        due.is("at once", 0.0, x::meanWait);
        x.setOn(0, false);
        x.pass(5);
        x.setOn(0, true);
        due.is("begun again", 0.0, x::meanWait);
        x.call(0, 1, 'r', 9);
        due.is("who waits does not count", 0.0, x::meanWait);
        x.pass(9);
        due.is("two", 9.0 / 2.0, x::meanWait);
        x.cancel(1);
        x.call(0, 1, 'r', 1);
        due.is("who was cancelled counts if it has begun", 9.0 / 3.0, x::meanWait);
    }

    /** "divided .., both converted to double": no whole number, and no number of a float */
    void promise37QuotientOfDoubles() {
        FoghornExchange x = Coasts.at(50, 0, 50);
        x.call(0, 1, 'r', 1);
        x.call(0, 1, 'r', 1);
        x.call(0, 1, 'r', 1);
        x.pass(3);
        due.is("a whole number", 3.0 / 3.0, x::meanWait);
        x.call(0, 1, 'r', 2);
        x.call(0, 1, 'r', 1);
        x.call(0, 1, 'r', 1);
        x.pass(10);
        due.is("8 over 6", 8.0 / 6.0, x::meanWait);
        x.call(0, 1, 'r', 1);
        due.is("8 over 7", 8.0 / 7.0, x::meanWait);
    }

    /** "Throws IndexOutOfBoundsException if there is no such channel" comes before "if the time is 0" */
    void promise38NoSuchChannelOrNoTime() {
        FoghornExchange x = Coasts.harbour();
        for (int channel : Edge.outside(0, 2)) {
            due.fails("channel " + channel + " at the time 0", Edge.NO_INDEX, () -> x.channelShare(channel));
        }
        for (int channel = 0; channel < 3; channel++) {
            int asked = channel;
            due.fails("at the time 0, " + channel, Edge.NO_QUOTIENT, () -> x.channelShare(asked));
        }
        x.call(0, 1, 'd', 1);
        due.fails("spoken, but no minute", Edge.NO_QUOTIENT, () -> x.channelShare(0));
        x.pass(1);
        due.is("all of one minute", 1.0f, () -> x.channelShare(0));
        due.is("none of one minute", 0.0f, () -> x.channelShare(2));
        for (int channel : Edge.outside(0, 2)) {
            due.fails("channel " + channel, Edge.NO_INDEX, () -> x.channelShare(channel));
        }
    }

    /** "the share of the minutes so far in which a call spoke on a channel": also its last, not the one it waited in */
    void promise38MinutesInWhichACallSpoke() {
        FoghornExchange x = Coasts.at(50, 0, 50);
        x.call(0, 1, 'r', 2);
        x.call(0, 1, 'd', 1);
        due.same("the distress speaks", "1 - -", Coasts.speakers(x));
        x.pass(1);
        due.is("its last minute", 1.0f, () -> x.channelShare(0));
        due.is("begun at its end", 0.0f, () -> x.channelShare(1));
        x.pass(2);
        due.is("one of three", 1.0f / 3.0f, () -> x.channelShare(0));
        due.is("two of three", 2.0f / 3.0f, () -> x.channelShare(1));
        due.is("none of three", 0.0f, () -> x.channelShare(2));
        x.pass(4);
        due.is("two of seven", 2.0f / 7.0f, () -> x.channelShare(1));
    }

    /** "Returns whether this holds": with nothing, all off, a full line, all channels taken, and all calls placed */
    void promise39EmptyAndFull() {
        due.is("nothing", true, () -> new FoghornExchange().isInOrder());
        due.is("one station", true, () -> Coasts.at(50, 0).isInOrder());
        FoghornExchange x = Coasts.harbour();
        due.is("ten stations", true, x::isInOrder);
        for (int call = 0; call < 24; call++) {
            x.call(call % 10, (call + 1) % 10, Edge.URGENCIES.charAt(call % 4), 30);
            due.is("after call " + call, true, x::isInOrder);
        }
        for (int station = 0; station < 10; station++) {
            x.setOn(station, false);
            due.is("off " + station, true, x::isInOrder);
        }
        due.is("24 wait", 24, x::waiting);
        FoghornExchange y = Coasts.apart();
        for (int call = 0; call < 150; call++) {
            y.call(0, 1, 'r', 1);
            y.cancel(call);
        }
        due.is("150 calls", true, y::isInOrder);
    }
}
