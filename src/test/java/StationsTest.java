import java.util.NoSuchElementException;

/** The promises 1 to 12: a new object, stations and ways. */
public final class StationsTest {
    private static final Class<IndexOutOfBoundsException> NO_INDEX = IndexOutOfBoundsException.class;
    private static final Class<IllegalArgumentException> NO_ARGUMENT = IllegalArgumentException.class;
    private static final Class<IllegalStateException> NO_STATE = IllegalStateException.class;
    private static final Class<NoSuchElementException> NO_ELEMENT = NoSuchElementException.class;

    private final Due due = new Due();

    public static void main(String[] args) {
        StationsTest test = new StationsTest();
        test.promise1NewObject();
        test.promise2AddStation();
        test.promise2AddingLetsSpeak();
        test.promise3Move();
        test.promise3MovingLetsSpeakAndKeepsWays();
        test.promise4SetOn();
        test.promise4SetOffInterrupts();
        test.promise5Stations();
        test.promise6PlaceOf();
        test.promise7IsOn();
        test.promise8Hears();
        test.promise9BusyWith();
        test.promise10Relays();
        test.promise11RelaysByJoining();
        test.promise12OnWay();
        test.promise12LowestWay();
        test.due.close("StationsTest");
    }

    private void promise1NewObject() {
        FoghornExchange x = new FoghornExchange();
        due.is("1 stations", 0, x::stations);
        due.is("1 time", 0, x::time);
        due.is("1 calls", 0, x::calls);
        due.is("1 waiting", 0, x::waiting);
        due.is("1 logged", 0, x::logged);
        due.is("1 waited", 0L, x::waited);
        due.is("1 in order", true, x::isInOrder);
        due.same("1 speakers", "- - -", Coasts.speakers(x));
        new FoghornExchange().addStation(5, 5);
        due.is("1 objects are apart", 0, x::stations);
    }

    private void promise2AddStation() {
        FoghornExchange x = new FoghornExchange();
        due.is("2 first", 0, () -> x.addStation(0, 1));
        due.is("2 second", 1, () -> x.addStation(300, 100));
        due.is("2 is on", true, () -> x.isOn(1));
        due.is("2 place", 300, () -> x.placeOf(1));
        due.failsAndKeeps(x, "2 place -1", NO_ARGUMENT, () -> x.addStation(-1, 50));
        due.failsAndKeeps(x, "2 place 301", NO_ARGUMENT, () -> x.addStation(301, 50));
        due.failsAndKeeps(x, "2 reach 0", NO_ARGUMENT, () -> x.addStation(50, 0));
        due.failsAndKeeps(x, "2 reach 101", NO_ARGUMENT, () -> x.addStation(50, 101));
        due.failsAndKeeps(x, "2 least numbers", NO_ARGUMENT,
                () -> x.addStation(Integer.MIN_VALUE, Integer.MIN_VALUE));
        for (int number = 2; number < 10; number++) {
            int want = number;
            due.is("2 station " + number, want, () -> x.addStation(7, 7));
        }
        due.failsAndKeeps(x, "2 an eleventh", NO_STATE, () -> x.addStation(0, 1));
        due.failsAndKeeps(x, "2 an eleventh, out of range too", NO_ARGUMENT, () -> x.addStation(301, 1));
    }

    private void promise2AddingLetsSpeak() {
        FoghornExchange x = Coasts.at(50, 0, 100);
        x.call(0, 1, 'r', 3);
        due.is("2 no way yet", 'w', () -> x.stateOf(0));
        x.addStation(50, 50);
        due.is("2 the new station is a relay", 's', () -> x.stateOf(0));
        due.is("2 the relay belongs to the call", 0, () -> x.busyWith(2));
    }

    private void promise3Move() {
        FoghornExchange x = Coasts.at(50, 0, 100);
        due.is("3 the place before", 100, () -> x.move(1, 50));
        due.is("3 the place now", 50, () -> x.placeOf(1));
        due.is("3 hears now", true, () -> x.hears(0, 1));
        due.is("3 to place 0", 0, () -> x.move(0, 300));
        due.is("3 to place 300", 300, () -> x.move(0, 0));
        due.failsAndKeeps(x, "3 no station 2", NO_INDEX, () -> x.move(2, 5));
        due.failsAndKeeps(x, "3 no station -1", NO_INDEX, () -> x.move(-1, 5));
        due.failsAndKeeps(x, "3 place -1", NO_ARGUMENT, () -> x.move(0, -1));
        due.failsAndKeeps(x, "3 place 301", NO_ARGUMENT, () -> x.move(0, 301));
        due.failsAndKeeps(x, "3 both wrong", NO_INDEX, () -> x.move(2, 301));
    }

    private void promise3MovingLetsSpeakAndKeepsWays() {
        FoghornExchange x = Coasts.at(50, 0, 50, 100, 300);
        x.call(0, 2, 'r', 9);
        x.call(0, 3, 'u', 9);
        due.same("3 one speaks", "- 0 -", Coasts.speakers(x));
        x.move(1, 200);
        due.is("3 a call keeps its way", 0, () -> x.busyWith(1));
        due.is("3 it still speaks", 's', () -> x.stateOf(0));
        due.same("3 though there is none now", "-", Coasts.way(x, 0, 2));
        x.move(3, 40);
        due.same("3 moving lets an urgency break in", "1 - -", Coasts.speakers(x));
        due.is("3 and frees the relay", "throws " + NO_ELEMENT.getName(), () -> x.busyWith(1));
    }

    private void promise4SetOn() {
        FoghornExchange x = Coasts.at(50, 0, 50);
        due.is("4 off, was on", true, () -> x.setOn(0, false));
        due.is("4 off, was off", false, () -> x.setOn(0, false));
        due.is("4 is off", false, () -> x.isOn(0));
        x.call(1, 0, 's', 2);
        due.is("4 waits for it", 'w', () -> x.stateOf(0));
        due.is("4 on, was off", false, () -> x.setOn(0, true));
        due.is("4 on, was on", true, () -> x.setOn(0, true));
        due.is("4 setting on lets speak", 's', () -> x.stateOf(0));
        due.is("4 setting on again interrupts nothing", 0, () -> x.interruptions(0));
        due.failsAndKeeps(x, "4 no station 2", NO_INDEX, () -> x.setOn(2, true));
        due.failsAndKeeps(x, "4 no station -1", NO_INDEX, () -> x.setOn(-1, false));
    }

    private void promise4SetOffInterrupts() {
        FoghornExchange x = Coasts.at(50, 0, 50, 100, 50);
        x.call(0, 2, 'r', 9);
        x.pass(2);
        due.is("4 a relay belongs to it", 0, () -> x.busyWith(1));
        x.setOn(1, false);
        due.same("4 interrupted, and begun again over another relay", "b0 i0 b0", Coasts.latest(x, 3));
        due.is("4 the other relay", 0, () -> x.busyWith(3));
        due.is("4 interrupted once", 1, () -> x.interruptions(0));
        x.setOn(2, false);
        due.is("4 an end is off", 'w', () -> x.stateOf(0));
        due.is("4 with the minutes left", 7, () -> x.leftOf(0));
        due.same("4 nobody speaks", "- - -", Coasts.speakers(x));
        due.is("4 the caller is free", "throws " + NO_ELEMENT.getName(), () -> x.busyWith(0));
        x.setOn(0, false);
        due.is("4 who waits is not interrupted", 2, () -> x.interruptions(0));
    }

    private void promise5Stations() {
        due.is("5 none", 0, () -> new FoghornExchange().stations());
        FoghornExchange x = Coasts.harbour();
        due.is("5 ten", 10, x::stations);
        x.setOn(4, false);
        due.is("5 those that are off too", 10, x::stations);
    }

    private void promise6PlaceOf() {
        FoghornExchange x = Coasts.at(5, 7, 300);
        due.is("6 first", 7, () -> x.placeOf(0));
        due.is("6 second", 300, () -> x.placeOf(1));
        due.failsAndKeeps(x, "6 no station 2", NO_INDEX, () -> x.placeOf(2));
        due.failsAndKeeps(x, "6 no station -1", NO_INDEX, () -> x.placeOf(-1));
        due.failsAndKeeps(x, "6 no greatest", NO_INDEX, () -> x.placeOf(Integer.MAX_VALUE));
    }

    private void promise7IsOn() {
        FoghornExchange x = Coasts.at(5, 7, 300);
        x.setOn(0, false);
        due.is("7 off", false, () -> x.isOn(0));
        due.is("7 on", true, () -> x.isOn(1));
        due.failsAndKeeps(x, "7 no station 2", NO_INDEX, () -> x.isOn(2));
        due.failsAndKeeps(x, "7 no station -1", NO_INDEX, () -> x.isOn(-1));
    }

    private void promise8Hears() {
        FoghornExchange x = new FoghornExchange();
        x.addStation(100, 30);
        x.addStation(130, 100);
        x.addStation(131, 100);
        due.is("8 at the lesser reach", true, () -> x.hears(0, 1));
        due.is("8 the other way round", true, () -> x.hears(1, 0));
        due.is("8 beyond the lesser reach", false, () -> x.hears(0, 2));
        due.is("8 beyond it, the other way round", false, () -> x.hears(2, 0));
        x.setOn(1, false);
        due.is("8 the other one is off", false, () -> x.hears(0, 1));
        due.is("8 it is off itself", false, () -> x.hears(1, 0));
        due.failsAndKeeps(x, "8 no station 3", NO_INDEX, () -> x.hears(3, 0));
        due.failsAndKeeps(x, "8 no other 3", NO_INDEX, () -> x.hears(0, 3));
        due.failsAndKeeps(x, "8 no station -1", NO_INDEX, () -> x.hears(-1, -1));
        due.failsAndKeeps(x, "8 both the same", NO_ARGUMENT, () -> x.hears(2, 2));
        due.failsAndKeeps(x, "8 both the same, and none", NO_INDEX, () -> x.hears(3, 3));
    }

    private void promise9BusyWith() {
        FoghornExchange x = Coasts.at(30, 0, 30, 60, 65);
        x.call(2, 0, 's', 1);
        for (int station = 0; station < 3; station++) {
            int asked = station;
            due.is("9 station " + station, 0, () -> x.busyWith(asked));
        }
        due.failsAndKeeps(x, "9 not on the way", NO_ELEMENT, () -> x.busyWith(3));
        due.failsAndKeeps(x, "9 no station 4", NO_INDEX, () -> x.busyWith(4));
        due.failsAndKeeps(x, "9 no station -1", NO_INDEX, () -> x.busyWith(-1));
        x.pass(1);
        due.failsAndKeeps(x, "9 the call has ended", NO_ELEMENT, () -> x.busyWith(1));
        FoghornExchange y = Coasts.harbour();
        y.call(0, 1, 'd', 9);
        y.call(2, 3, 'd', 9);
        y.call(4, 5, 'd', 9);
        for (int station = 0; station < 6; station++) {
            int asked = station;
            due.is("9 on each channel, station " + station, station / 2, () -> y.busyWith(asked));
        }
    }

    private void promise10Relays() {
        FoghornExchange x = chain();
        due.is("10 none between", 0, () -> x.relays(3, 4));
        due.is("10 eight between", 8, () -> x.relays(0, 9));
        due.is("10 back", 8, () -> x.relays(9, 0));
        due.failsAndKeeps(x, "10 no station 10", NO_INDEX, () -> x.relays(10, 0));
        due.failsAndKeeps(x, "10 no other -1", NO_INDEX, () -> x.relays(0, -1));
        due.failsAndKeeps(x, "10 the same", NO_ARGUMENT, () -> x.relays(9, 9));
        due.failsAndKeeps(x, "10 the same, and none", NO_INDEX, () -> x.relays(10, 10));
        x.setOn(5, false);
        due.failsAndKeeps(x, "10 a gap", NO_ELEMENT, () -> x.relays(0, 9));
        due.failsAndKeeps(x, "10 an end is off", NO_ELEMENT, () -> x.relays(5, 4));
        due.failsAndKeeps(x, "10 the other end is off", NO_ELEMENT, () -> x.relays(4, 5));
        due.is("10 before the gap", 3, () -> x.relays(0, 4));
        due.is("10 the fewest", 0, () -> Coasts.harbour().relays(0, 9));
    }

    private void promise11RelaysByJoining() {
        FoghornExchange x = chain();
        due.is("11 none between", 0, () -> x.relaysByJoining(3, 4));
        due.is("11 eight between", 8, () -> x.relaysByJoining(0, 9));
        due.is("11 back", 8, () -> x.relaysByJoining(9, 0));
        due.failsAndKeeps(x, "11 no station 10", NO_INDEX, () -> x.relaysByJoining(10, 0));
        due.failsAndKeeps(x, "11 no other -1", NO_INDEX, () -> x.relaysByJoining(0, -1));
        due.failsAndKeeps(x, "11 the same", NO_ARGUMENT, () -> x.relaysByJoining(0, 0));
        due.failsAndKeeps(x, "11 the same, and none", NO_INDEX, () -> x.relaysByJoining(-1, -1));
        x.setOn(5, false);
        due.failsAndKeeps(x, "11 a gap", NO_ELEMENT, () -> x.relaysByJoining(0, 9));
        due.failsAndKeeps(x, "11 an end is off", NO_ELEMENT, () -> x.relaysByJoining(5, 4));
        due.is("11 before the gap", 3, () -> x.relaysByJoining(0, 4));
        due.is("11 the fewest", 0, () -> Coasts.harbour().relaysByJoining(0, 9));
        FoghornExchange y = Coasts.at(50, 50, 0, 100);
        due.is("11 over the first station", 1, () -> y.relaysByJoining(1, 2));
        FoghornExchange z = Coasts.at(50, 0, 100, 50);
        due.is("11 over the last station", 1, () -> z.relaysByJoining(1, 0));
    }

    private void promise12OnWay() {
        FoghornExchange x = chain();
        due.same("12 the whole way", "2 3 4 5", Coasts.way(x, 2, 5));
        due.same("12 the way back", "5 4 3 2", Coasts.way(x, 5, 2));
        due.failsAndKeeps(x, "12 index -1", NO_ELEMENT, () -> x.onWay(2, 5, -1));
        due.failsAndKeeps(x, "12 index 4", NO_ELEMENT, () -> x.onWay(2, 5, 4));
        due.failsAndKeeps(x, "12 the greatest index", NO_ELEMENT, () -> x.onWay(0, 9, Integer.MAX_VALUE));
        due.failsAndKeeps(x, "12 no station 10", NO_INDEX, () -> x.onWay(10, 0, 0));
        due.failsAndKeeps(x, "12 no other 10", NO_INDEX, () -> x.onWay(0, 10, -1));
        due.failsAndKeeps(x, "12 the same", NO_ARGUMENT, () -> x.onWay(1, 1, 5));
        x.setOn(3, false);
        due.failsAndKeeps(x, "12 no way", NO_ELEMENT, () -> x.onWay(2, 5, 0));
    }

    private void promise12LowestWay() {
        FoghornExchange x = new FoghornExchange();
        x.addStation(0, 40);
        x.addStation(40, 40);
        x.addStation(20, 40);
        x.addStation(60, 40);
        x.addStation(100, 40);
        x.addStation(70, 40);
        due.same("12 of equal ways the lower number first", "0 1 3 4", Coasts.way(x, 0, 4));
        due.same("12 from the other end it is another one", "4 3 1 0", Coasts.way(x, 4, 0));
        due.same("12 of relays of one step", "1 3 4", Coasts.way(x, 1, 4));
        x.move(3, 300);
        due.same("12 over the next one", "0 1 5 4", Coasts.way(x, 0, 4));
        FoghornExchange y = Coasts.at(50, 0, 90, 140, 50, 45, 95);
        due.same("12 fewest before lowest", "0 3 1 2", Coasts.way(y, 0, 2));
        due.same("12 lowest at the first difference, not at the last", "2 1 3 0", Coasts.way(y, 2, 0));
        y.setOn(3, false);
        due.same("12 from the start", "0 4 1 2", Coasts.way(y, 0, 2));
        y.setOn(1, false);
        due.same("12 over the last ones", "0 4 5 2", Coasts.way(y, 0, 2));
    }

    private static FoghornExchange chain() {
        return Coasts.at(30, 0, 30, 60, 90, 120, 150, 180, 210, 240, 270);
    }
}
