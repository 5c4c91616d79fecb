/**
 * The boundary cases that the document names for a new object, stations and ways: promises 1 to 12.
 * Each test stands for the sentence above it.
 */
public final class StationEdgesTest {
    private final Due due = new Due();

    public static void main(String[] args) {
        StationEdgesTest test = new StationEdgesTest();
        test.due.runPromises(test, 1, 12);
        test.due.close("StationEdgesTest");
    }

    /** "Creates an exchange without stations, at the time 0." */
    void promise1NewIsEmpty() {
        FoghornExchange x = new FoghornExchange();
        due.is("stations", 0, x::stations);
        due.is("time", 0, x::time);
        due.is("calls", 0, x::calls);
        due.is("waiting", 0, x::waiting);
        due.is("logged", 0, x::logged);
        due.is("waited", 0L, x::waited);
        due.is("in order", true, x::isInOrder);
        for (int channel = 0; channel < 3; channel++) {
            int asked = channel;
            due.fails("speakerOn " + channel, Edge.NO_ELEMENT, () -> x.speakerOn(asked));
            due.fails("channelShare " + channel, Edge.NO_QUOTIENT, () -> x.channelShare(asked));
        }
        due.fails("meanWait", Edge.NO_QUOTIENT, x::meanWait);
    }

    void promise1NewHasNoStationCallOrEntry() {
        FoghornExchange x = new FoghornExchange();
        due.fails("placeOf", Edge.NO_INDEX, () -> x.placeOf(0));
        due.fails("isOn", Edge.NO_INDEX, () -> x.isOn(0));
        due.fails("missed", Edge.NO_INDEX, () -> x.missed(0));
        due.fails("busyWith", Edge.NO_INDEX, () -> x.busyWith(0));
        due.fails("sinceReport", Edge.NO_INDEX, () -> x.sinceReport(0));
        due.fails("stateOf", Edge.NO_ELEMENT, () -> x.stateOf(0));
        due.fails("inLine", Edge.NO_ELEMENT, () -> x.inLine(0));
        due.fails("inLineByCounting", Edge.NO_ELEMENT, () -> x.inLineByCounting(0));
        due.fails("logTime", Edge.NO_ELEMENT, () -> x.logTime(0));
    }

    /** Minutes pass where nothing is, too. */
    void promise1TimePassesWithoutStations() {
        FoghornExchange x = new FoghornExchange();
        due.is("nothing ends", 0, () -> x.pass(10));
        due.is("time", 10, x::time);
        due.is("nothing waited", 0L, x::waited);
        due.is("nothing spoke", 0.0f, () -> x.channelShare(0));
        due.is("nothing logged", 0, x::logged);
        due.is("in order", true, x::isInOrder);
    }

    /** "At most 10 stations exist, numbered from 0 in the order in which they were added." */
    void promise2AtMostTenStations() {
        FoghornExchange x = new FoghornExchange();
        for (int number = 0; number < 10; number++) {
            int want = number;
            due.is("number", want, () -> x.addStation(want * 30, 100 - want));
        }
        due.fails("an eleventh", Edge.NO_STATE, () -> x.addStation(5, 5));
        due.is("stations", 10, x::stations);
        for (int number = 0; number < 10; number++) {
            int asked = number;
            due.is("place of " + number, asked * 30, () -> x.placeOf(asked));
        }
        due.fails("no place of an eleventh", Edge.NO_INDEX, () -> x.placeOf(10));
    }

    /** "A station has a place on the coast, from 0 to 300 .." */
    void promise2PlaceFrom0To300() {
        for (int place : Edge.inside(0, 300)) {
            FoghornExchange x = new FoghornExchange();
            due.is("added at " + place, 0, () -> x.addStation(place, 50));
            due.is("is at " + place, place, () -> x.placeOf(0));
        }
        FoghornExchange x = new FoghornExchange();
        for (int place : Edge.outside(0, 300)) {
            due.fails("not at " + place, Edge.NO_ARGUMENT, () -> x.addStation(place, 50));
        }
        due.is("none was added", 0, x::stations);
    }

    /** ".. and a reach from 1 to 100" */
    void promise2ReachFrom1To100() {
        for (int reach : Edge.inside(1, 100)) {
            FoghornExchange x = new FoghornExchange();
            due.is("added with " + reach, 0, () -> x.addStation(0, reach));
            x.addStation(reach, 100);
            due.is("reaches " + reach, true, () -> x.hears(0, 1));
        }
        FoghornExchange x = new FoghornExchange();
        for (int reach : Edge.outside(1, 100)) {
            due.fails("not with " + reach, Edge.NO_ARGUMENT, () -> x.addStation(50, reach));
        }
        due.is("none was added", 0, x::stations);
    }

    /** A range that is broken is documented ahead of the stations being ten. */
    void promise2OutOfRangeComesBeforeFull() {
        FoghornExchange x = Coasts.harbour();
        for (int place : Edge.outside(0, 300)) {
            due.fails("place " + place, Edge.NO_ARGUMENT, () -> x.addStation(place, 50));
        }
        for (int reach : Edge.outside(1, 100)) {
            due.fails("reach " + reach, Edge.NO_ARGUMENT, () -> x.addStation(50, reach));
        }
        due.fails("both in range", Edge.NO_STATE, () -> x.addStation(300, 100));
    }

    /** ".. and it is on or off, at first on." */
    void promise2AtFirstOn() {
        FoghornExchange x = new FoghornExchange();
        for (int number = 0; number < 10; number++) {
            int asked = number;
            x.addStation(7, 7);
            due.is("on " + number, true, () -> x.isOn(asked));
            x.setOn(number, false);
        }
    }

    /** "Whenever a station is added .. the exchange .. lets each call begin that can." */
    void promise2AddedTenthLetsSpeak() {
        FoghornExchange x = Coasts.at(30, 0, 30, 60, 120, 150, 180, 210, 240, 270);
        x.call(0, 8, 'r', 5);
        due.is("a gap at 90", 'w', () -> x.stateOf(0));
        due.is("the tenth", 9, () -> x.addStation(90, 29));
        due.is("that hears too little", 'w', () -> x.stateOf(0));
        FoghornExchange y = Coasts.at(30, 0, 30, 60, 120, 150, 180, 210, 240, 270);
        y.call(0, 8, 'r', 5);
        due.is("the tenth", 9, () -> y.addStation(90, 30));
        due.is("that closes the gap", 's', () -> y.stateOf(0));
    }

    /** "place: its place from now on" */
    void promise3PlaceFrom0To300() {
        FoghornExchange x = Coasts.at(50, 150);
        int before = 150;
        for (int place : Edge.inside(0, 300)) {
            int was = before;
            due.is("moved to " + place, was, () -> x.move(0, place));
            due.is("is at " + place, place, () -> x.placeOf(0));
            before = place;
        }
        for (int place : Edge.outside(0, 300)) {
            due.fails("not to " + place, Edge.NO_ARGUMENT, () -> x.move(0, place));
            due.is("stays", 300, () -> x.placeOf(0));
        }
        due.is("to where it is", 300, () -> x.move(0, 300));
    }

    /** "Throws IndexOutOfBoundsException if there is no such station" */
    void promise3NoSuchStation() {
        FoghornExchange x = new FoghornExchange();
        due.fails("of none", Edge.NO_INDEX, () -> x.move(0, 5));
        x.addStation(0, 50);
        due.is("the only one", 0, () -> x.move(0, 5));
        for (int station : Edge.outside(0, 0)) {
            due.fails("station " + station, Edge.NO_INDEX, () -> x.move(station, 5));
            due.fails("station and place", Edge.NO_INDEX, () -> x.move(station, 301));
        }
        FoghornExchange y = Coasts.harbour();
        due.is("the tenth", 9, () -> y.move(9, 300));
        due.fails("an eleventh", Edge.NO_INDEX, () -> y.move(10, 5));
    }

    /** "Calls that speak keep their ways." */
    void promise3CallsThatSpeakKeepTheirWays() {
        FoghornExchange x = Coasts.at(50, 0, 50, 100, 45);
        x.call(0, 2, 'r', 2);
        for (int station = 0; station < 3; station++) {
            int asked = station;
            x.move(station, 300 - 100 * station);
            due.is("still belongs to it, " + station, 0, () -> x.busyWith(asked));
        }
        due.is("is not interrupted", 0, () -> x.interruptions(0));
        due.fails("nor comes another relay", Edge.NO_ELEMENT, () -> x.busyWith(3));
        due.is("has its minutes", 0, () -> x.pass(1));
        due.is("to its end", 1, () -> x.pass(1));
    }

    /** "Throws IndexOutOfBoundsException if there is no such station" */
    void promise4NoSuchStation() {
        FoghornExchange x = new FoghornExchange();
        due.fails("of none", Edge.NO_INDEX, () -> x.setOn(0, false));
        x.addStation(0, 50);
        due.is("the only one", true, () -> x.setOn(0, false));
        for (int station : Edge.outside(0, 0)) {
            due.fails("station " + station, Edge.NO_INDEX, () -> x.setOn(station, true));
        }
        FoghornExchange y = Coasts.harbour();
        due.is("the tenth", true, () -> y.setOn(9, false));
        due.fails("an eleventh", Edge.NO_INDEX, () -> y.setOn(10, false));
    }

    /** "If it is set off and belongs to a call, this call is interrupted." */
    void promise4OffInterruptsTheCallOfEachStationOfAWay() {
        for (int station = 0; station < 4; station++) {
            int off = station;
            FoghornExchange x = Coasts.at(50, 0, 50, 100, 140);
            x.call(2, 0, 's', 1);
            due.is("set off " + station, true, () -> x.setOn(off, false));
            due.is("interruptions " + station, off < 3 ? 1 : 0, () -> x.interruptions(0));
            due.is("state " + station, off < 3 ? 'w' : 's', () -> x.stateOf(0));
            due.is("minutes left " + station, 1, () -> x.leftOf(0));
        }
    }

    void promise4OnOrOffAgainInterruptsNone() {
        FoghornExchange x = Coasts.at(50, 0, 50);
        x.call(0, 1, 'r', 5);
        due.is("on, was on", true, () -> x.setOn(0, true));
        due.is("it goes on", 0, () -> x.interruptions(0));
        due.is("nothing is logged", 2, x::logged);
        x.setOn(0, false);
        due.is("off, was off", false, () -> x.setOn(0, false));
        due.is("interrupted once", 1, () -> x.interruptions(0));
        due.is("and logged once", 3, x::logged);
    }

    /** An interrupted call leaves all its stations to others, in the same call of setOn. */
    void promise4OffFreesTheOtherStations() {
        FoghornExchange x = Coasts.at(50, 0, 50, 100);
        x.call(0, 2, 's', 5);
        x.call(1, 2, 'r', 5);
        due.same("one waits for the relay", "1", Coasts.line(x));
        x.setOn(0, false);
        due.same("it begins", "i0 b1", Coasts.latest(x, 2));
        due.is("on the freed station", 1, () -> x.busyWith(1));
    }

    /** "Returns the number of stations." */
    void promise5FromNoneToTen() {
        FoghornExchange x = new FoghornExchange();
        for (int count = 0; count < 10; count++) {
            int want = count;
            due.is("so far", want, x::stations);
            due.fails("out of range", Edge.NO_ARGUMENT, () -> x.addStation(301, 1));
            due.is("not counted", want, x::stations);
            x.addStation(count, 1);
        }
        due.is("ten", 10, x::stations);
        due.fails("full", Edge.NO_STATE, () -> x.addStation(0, 1));
        due.is("still ten", 10, x::stations);
    }

    /** "Throws IndexOutOfBoundsException if there is no such station" */
    void promise6NoSuchStation() {
        FoghornExchange x = Coasts.at(5, 300, 0);
        due.is("the first", 300, () -> x.placeOf(0));
        due.is("the last", 0, () -> x.placeOf(1));
        for (int station : Edge.outside(0, 1)) {
            due.fails("station " + station, Edge.NO_INDEX, () -> x.placeOf(station));
        }
        due.is("of ten the last", 9, () -> Coasts.harbour().placeOf(9));
        due.fails("none behind ten", Edge.NO_INDEX, () -> Coasts.harbour().placeOf(10));
    }

    /** "Throws IndexOutOfBoundsException if there is no such station" */
    void promise7NoSuchStation() {
        FoghornExchange x = Coasts.at(5, 300, 0);
        x.setOn(1, false);
        due.is("the first", true, () -> x.isOn(0));
        due.is("the last", false, () -> x.isOn(1));
        for (int station : Edge.outside(0, 1)) {
            due.fails("station " + station, Edge.NO_INDEX, () -> x.isOn(station));
        }
        due.is("of ten the last", true, () -> Coasts.harbour().isOn(9));
        due.fails("none behind ten", Edge.NO_INDEX, () -> Coasts.harbour().isOn(10));
    }

    /** ".. the distance of their places is not greater than the lesser one of their reaches." */
    void promise8DistanceNotGreaterThanTheLesserReach() {
        for (int lesser : Edge.inside(1, 100)) {
            for (int greater = lesser; greater <= 100; greater += 100 - lesser > 0 ? 100 - lesser : 1) {
                for (int distance = lesser - 1; distance <= lesser + 1; distance++) {
                    hears(lesser, greater, 300 - distance, 300, distance <= lesser);
                    hears(greater, lesser, 0, distance, distance <= lesser);
                    hears(greater, lesser, distance, 0, distance <= lesser);
                }
            }
        }
        hears(1, 1, 300, 300, true);
        hears(100, 100, 0, 300, false);
    }

    private void hears(int reach, int otherReach, int place, int otherPlace, boolean want) {
        FoghornExchange x = new FoghornExchange();
        x.addStation(place, reach);
        x.addStation(otherPlace, otherReach);
        String what = "reach " + reach + " at " + place + ", reach " + otherReach + " at " + otherPlace;
        due.is(what, want, () -> x.hears(0, 1));
        due.is(what + ", the other way round", want, () -> x.hears(1, 0));
    }

    /** "Two stations hear each other if both are on .." */
    void promise8BothAreOn() {
        for (int off = 0; off < 4; off++) {
            FoghornExchange x = Coasts.at(50, 0, 50);
            x.setOn(0, (off & 1) == 0);
            x.setOn(1, (off & 2) == 0);
            due.is("off " + off, off == 0, () -> x.hears(0, 1));
            due.is("off " + off + ", the other way round", off == 0, () -> x.hears(1, 0));
        }
    }

    /** "IndexOutOfBoundsException if there is no such station, for either", ahead of "both are the same" */
    void promise8NoSuchStationOrTheSame() {
        FoghornExchange x = Coasts.at(50, 0, 50, 100);
        due.is("the first and the last", false, () -> x.hears(0, 2));
        for (int station : Edge.outside(0, 2)) {
            due.fails("station " + station, Edge.NO_INDEX, () -> x.hears(station, 0));
            due.fails("other " + station, Edge.NO_INDEX, () -> x.hears(0, station));
            due.fails("both " + station, Edge.NO_INDEX, () -> x.hears(station, station));
        }
        for (int station = 0; station < 3; station++) {
            int same = station;
            due.fails("the same " + station, Edge.NO_ARGUMENT, () -> x.hears(same, same));
        }
    }

    /** "The stations of the way of a call that speaks .. belong to this call" */
    void promise9AllOfTheWayAndNoOther() {
        FoghornExchange x = Coasts.at(30, 0, 30, 60, 90, 120, 150, 180, 210, 240, 270);
        x.call(8, 1, 'd', 3);
        for (int station = 1; station < 9; station++) {
            int asked = station;
            due.is("station " + station, 0, () -> x.busyWith(asked));
        }
        due.fails("before its end", Edge.NO_ELEMENT, () -> x.busyWith(0));
        due.fails("behind its beginning", Edge.NO_ELEMENT, () -> x.busyWith(9));
        due.fails("none before the first", Edge.NO_INDEX, () -> x.busyWith(-1));
        due.fails("none behind the last", Edge.NO_INDEX, () -> x.busyWith(10));
        due.fails("no greatest", Edge.NO_INDEX, () -> x.busyWith(Integer.MAX_VALUE));
        due.fails("no least", Edge.NO_INDEX, () -> x.busyWith(Integer.MIN_VALUE));
    }

    /** The way of a call begins with the station that calls, so that it is another one for the call back. */
    void promise9TheWayFromTheStationThatCalls() {
        FoghornExchange x = twoWays();
        x.call(0, 1, 'r', 5);
        due.is("over 4", 0, () -> x.busyWith(4));
        due.is("and 3", 0, () -> x.busyWith(3));
        due.fails("not over 5", Edge.NO_ELEMENT, () -> x.busyWith(5));
        due.fails("nor 2", Edge.NO_ELEMENT, () -> x.busyWith(2));
        FoghornExchange y = twoWays();
        y.call(1, 0, 'r', 5);
        due.is("back over 2", 0, () -> y.busyWith(2));
        due.is("and 5", 0, () -> y.busyWith(5));
        due.fails("not over 3", Edge.NO_ELEMENT, () -> y.busyWith(3));
        due.fails("nor 4", Edge.NO_ELEMENT, () -> y.busyWith(4));
    }

    /** Between 0 and 1 are two ways with two relays: over 4 and 3, and over 5 and 2. */
    private static FoghornExchange twoWays() {
        FoghornExchange x = new FoghornExchange();
        x.addStation(0, 30);
        x.addStation(95, 35);
        x.addStation(70, 100);
        x.addStation(60, 35);
        x.addStation(30, 30);
        x.addStation(20, 100);
        return x;
    }

    /** "Throws NoSuchElementException if it belongs to none" */
    void promise9ToNoneWhoDoesNotSpeak() {
        FoghornExchange x = Coasts.at(50, 0, 50, 300);
        due.fails("no call", Edge.NO_ELEMENT, () -> x.busyWith(0));
        x.call(0, 2, 's', 5);
        due.fails("it waits", Edge.NO_ELEMENT, () -> x.busyWith(0));
        x.call(0, 1, 'r', 1);
        due.is("it speaks", 1, () -> x.busyWith(1));
        x.pass(1);
        due.fails("it has ended", Edge.NO_ELEMENT, () -> x.busyWith(1));
        x.call(0, 1, 'r', 2);
        x.cancel(2);
        due.fails("it was cancelled", Edge.NO_ELEMENT, () -> x.busyWith(1));
        x.call(0, 1, 'r', 2);
        x.setOn(1, false);
        due.fails("it was interrupted", Edge.NO_ELEMENT, () -> x.busyWith(0));
        due.fails("and the station is off", Edge.NO_ELEMENT, () -> x.busyWith(1));
    }

    /** ".. the one with the fewest relays", from none up to the eight that ten stations allow, by both ways. */
    void promise10FromNoneToEightRelays() {
        FoghornExchange x = Coasts.at(30, 0, 30, 60, 90, 120, 150, 180, 210, 240, 270);
        for (int from = 0; from < 10; from++) {
            for (int to = 0; to < 10; to++) {
                if (from != to) {
                    relays(x, from, to, Math.abs(from - to) - 1);
                }
            }
        }
    }

    private void relays(FoghornExchange x, int from, int to, int want) {
        due.is("from " + from + " to " + to, want, () -> x.relays(from, to));
        due.is("joined, from " + from + " to " + to, want, () -> x.relaysByJoining(from, to));
    }

    /** "There is none if one of its ends is off", and none over a relay that is off. */
    void promise10NoWay() {
        FoghornExchange x = Coasts.at(50, 0, 50, 100, 151);
        relays(x, 0, 2, 1);
        noWay(x, 0, 3);
        noWay(x, 2, 3);
        for (int station = 0; station < 3; station++) {
            x.setOn(station, false);
            noWay(x, 0, 2);
            x.setOn(station, true);
        }
        relays(x, 2, 0, 1);
        x.move(3, 150);
        relays(x, 0, 3, 2);
    }

    private void noWay(FoghornExchange x, int from, int to) {
        due.fails("from " + from + " to " + to, Edge.NO_ELEMENT, () -> x.relays(from, to));
        due.fails("from " + to + " to " + from, Edge.NO_ELEMENT, () -> x.relays(to, from));
        due.fails("joined, from " + from + " to " + to, Edge.NO_ELEMENT, () -> x.relaysByJoining(from, to));
        due.fails("joined, from " + to + " to " + from, Edge.NO_ELEMENT, () -> x.relaysByJoining(to, from));
        due.fails("the way from " + from + " to " + to, Edge.NO_ELEMENT, () -> x.onWay(from, to, 0));
    }

    /** A way goes over stations that belong to calls, too: it is the same whoever speaks. */
    void promise10StationsThatSpeakAreOnTheWayToo() {
        FoghornExchange x = Coasts.at(50, 0, 50, 100);
        x.call(0, 1, 'd', 5);
        relays(x, 0, 2, 1);
        due.same("over it", "0 1 2", Coasts.way(x, 0, 2));
    }

    /** "IndexOutOfBoundsException .. for either", "IllegalArgumentException if both are the same", in this order */
    void promise10NoSuchStationOrTheSame() {
        FoghornExchange x = Coasts.at(50, 0, 50, 300);
        for (int station : Edge.outside(0, 2)) {
            due.fails("from " + station, Edge.NO_INDEX, () -> x.relays(station, 0));
            due.fails("to " + station, Edge.NO_INDEX, () -> x.relays(0, station));
            due.fails("both " + station, Edge.NO_INDEX, () -> x.relays(station, station));
        }
        x.setOn(1, false);
        due.fails("the same, and off", Edge.NO_ARGUMENT, () -> x.relays(1, 1));
        due.fails("the same, and alone", Edge.NO_ARGUMENT, () -> x.relays(2, 2));
        due.fails("no way", Edge.NO_ELEMENT, () -> x.relays(0, 2));
    }

    void promise11NoSuchStationOrTheSame() {
        FoghornExchange x = Coasts.at(50, 0, 50, 300);
        for (int station : Edge.outside(0, 2)) {
            due.fails("from " + station, Edge.NO_INDEX, () -> x.relaysByJoining(station, 0));
            due.fails("to " + station, Edge.NO_INDEX, () -> x.relaysByJoining(0, station));
            due.fails("both " + station, Edge.NO_INDEX, () -> x.relaysByJoining(station, station));
        }
        x.setOn(1, false);
        due.fails("the same, and off", Edge.NO_ARGUMENT, () -> x.relaysByJoining(1, 1));
        due.fails("the same, and alone", Edge.NO_ARGUMENT, () -> x.relaysByJoining(2, 2));
        due.fails("no way", Edge.NO_ELEMENT, () -> x.relaysByJoining(0, 2));
    }

    /** "found by joining ways of all pairs over each station": the first, the last, and several in no order */
    void promise11OverEachStation() {
        for (int relay = 0; relay < 10; relay++) {
            int[] places = {0, 0, 0, 0, 0, 0, 0, 0, 0, 0};
            places[relay] = 50;
            places[(relay + 1) % 10] = 100;
            FoghornExchange x = Coasts.at(50, places);
            relays(x, (relay + 2) % 10, (relay + 1) % 10, 1);
        }
        FoghornExchange y = Coasts.at(30, 60, 240, 0, 180, 90, 270, 30, 150, 210, 120);
        relays(y, 2, 5, 8);
        relays(y, 5, 2, 8);
        relays(y, 0, 9, 1);
        relays(y, 9, 1, 3);
    }

    /** Joining over a station reckons with the stations as they are now. */
    void promise11AfterEachChange() {
        FoghornExchange x = Coasts.at(50, 0, 50, 100);
        due.is("one relay", 1, () -> x.relaysByJoining(0, 2));
        x.move(2, 50);
        due.is("moved nearer", 0, () -> x.relaysByJoining(0, 2));
        x.move(2, 101);
        due.fails("moved too far", Edge.NO_ELEMENT, () -> x.relaysByJoining(0, 2));
        x.addStation(75, 50);
        due.is("over a new one", 2, () -> x.relaysByJoining(0, 2));
        x.setOn(1, false);
        due.fails("that alone is not enough", Edge.NO_ELEMENT, () -> x.relaysByJoining(0, 2));
    }

    /** "the index of the station on the way, 0 for the first one", and none behind its end */
    void promise12IndexFrom0ToTheLastOfTheWay() {
        FoghornExchange x = Coasts.at(30, 0, 30, 60, 90, 120, 150, 180, 210, 240, 270);
        for (int to = 1; to < 10; to++) {
            int end = to;
            due.is("begins with 0", 0, () -> x.onWay(0, end, 0));
            due.is("before its end", end - 1, () -> x.onWay(0, end, end - 1));
            due.is("ends with " + to, end, () -> x.onWay(0, end, end));
            for (int index : Edge.outside(0, end)) {
                due.fails("index " + index, Edge.NO_ELEMENT, () -> x.onWay(0, end, index));
            }
        }
    }

    void promise12NoSuchStationOrTheSame() {
        FoghornExchange x = Coasts.at(50, 0, 50, 300);
        for (int station : Edge.outside(0, 2)) {
            due.fails("from " + station, Edge.NO_INDEX, () -> x.onWay(station, 0, 0));
            due.fails("to " + station, Edge.NO_INDEX, () -> x.onWay(0, station, 0));
            due.fails("both, and no index", Edge.NO_INDEX, () -> x.onWay(station, station, -1));
        }
        due.fails("the same", Edge.NO_ARGUMENT, () -> x.onWay(1, 1, 0));
        due.fails("the same, and no index", Edge.NO_ARGUMENT, () -> x.onWay(1, 1, -1));
        due.fails("no way", Edge.NO_ELEMENT, () -> x.onWay(0, 2, 0));
        due.fails("no way back", Edge.NO_ELEMENT, () -> x.onWay(2, 0, 0));
    }

    /** ".. of several, the one that has the lower number where the two first differ." */
    void promise12LowerNumberWhereTheyFirstDiffer() {
        FoghornExchange x = Coasts.at(50, 100, 200, 150, 150);
        due.same("at the only relay", "0 2 1", Coasts.way(x, 0, 1));
        due.same("and back", "1 2 0", Coasts.way(x, 1, 0));
        FoghornExchange y = twoWays();
        due.same("at the first relay, not at the last", "0 4 3 1", Coasts.way(y, 0, 1));
        due.same("from the other end", "1 2 5 0", Coasts.way(y, 1, 0));
        y.setOn(3, false);
        due.same("the other way alone", "0 5 2 1", Coasts.way(y, 0, 1));
    }

    /** "The way of a call is the one with the fewest relays", however low the numbers of another one are. */
    void promise12FewestRelaysBeforeLowerNumbers() {
        FoghornExchange x = Coasts.at(50, 0, 100, 20, 60, 50);
        due.same("one relay", "0 4 1", Coasts.way(x, 0, 1));
        x.setOn(4, false);
        due.same("two relays", "0 2 3 1", Coasts.way(x, 0, 1));
        x.move(0, 50);
        due.same("none", "0 1", Coasts.way(x, 0, 1));
    }
}
