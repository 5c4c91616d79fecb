import java.lang.reflect.Field;

/**
 * Promise 39 again: calls of the face never leave an exchange out of order, so this test reaches into
 * its private fields, puts it out of order, and looks whether isInOrder tells.
 */
public final class OrderTest {
    private final Due due = new Due();

    public static void main(String[] args) throws ReflectiveOperationException {
        OrderTest test = new OrderTest();
        test.aCallThatWaitsCanBegin();
        test.aCallSpeaksOnAChannelItMayNotHave();
        test.aStationBelongsToTwoCalls();
        test.theLineIsAnotherOneByCounting();
        test.theRelaysAreOthersByJoining();
        test.due.close("OrderTest");
    }

    private void aCallThatWaitsCanBegin() throws ReflectiveOperationException {
        FoghornExchange x = Coasts.at(50, 0, 40, 80, 20);
        x.setOn(1, false);
        x.call(0, 2, 'd', 5);
        x.call(0, 3, 's', 5);
        x.call(2, 3, 'u', 5);
        due.is("39 two wait", true, x::isInOrder);
        set(element(get(x, "coast"), "row", 1), "on", true);
        due.is("39 the first of the line can begin", false, x::isInOrder);
        FoghornExchange y = Coasts.at(50, 0, 300, 20);
        y.call(0, 1, 'd', 5);
        y.setOn(2, false);
        y.call(0, 2, 'r', 5);
        due.is("39 two more wait", true, y::isInOrder);
        set(element(get(y, "coast"), "row", 2), "on", true);
        due.is("39 the last of the line can begin", false, y::isInOrder);
        FoghornExchange z = Coasts.at(50, 0, 40, 300);
        z.setOn(1, false);
        z.call(0, 1, 'd', 5);
        z.call(0, 2, 'r', 5);
        due.is("39 again two wait", true, z::isInOrder);
        set(element(get(z, "coast"), "row", 1), "on", true);
        due.is("39 the first alone can begin", false, z::isInOrder);
    }

    private void aCallSpeaksOnAChannelItMayNotHave() throws ReflectiveOperationException {
        FoghornExchange x = Coasts.harbour();
        x.call(0, 1, 'd', 5);
        x.call(2, 3, 's', 5);
        due.is("39 both may", true, x::isInOrder);
        Object[] speakers = (Object[]) get(get(x, "channels"), "speakers");
        Object distress = speakers[0];
        speakers[0] = speakers[1];
        speakers[1] = distress;
        due.is("39 a safety on channel 0", false, x::isInOrder);
    }

    private void aStationBelongsToTwoCalls() throws ReflectiveOperationException {
        for (int station = 0; station < 6; station++) {
            FoghornExchange x = Coasts.harbour();
            x.call(0, 1, 'd', 5);
            x.call(2, 3, 'd', 5);
            x.call(4, 5, 'd', 5);
            due.is("39 each its own", true, x::isInOrder);
            Object call = element(get(x, "placed"), (station / 2 + 1) % 3);
            set(call, "way", (Integer) get(call, "way") | 1 << station);
            due.is("39 station " + station + " belongs to two", false, x::isInOrder);
        }
    }

    private void theLineIsAnotherOneByCounting() throws ReflectiveOperationException {
        FoghornExchange x = Coasts.apart();
        Coasts.placeWaiting(x, 4);
        Object[] ordered = (Object[]) get(get(x, "line"), "ordered");
        for (int rank = 0; rank < 3; rank++) {
            due.is("39 the same line", true, x::isInOrder);
            Object first = ordered[rank];
            ordered[rank] = ordered[rank + 1];
            ordered[rank + 1] = first;
            due.is("39 ranks " + rank + " and the next changed", false, x::isInOrder);
            ordered[rank + 1] = ordered[rank];
            ordered[rank] = first;
        }
    }

    /** Too short a row for the stations that steps have reached: ways of two steps are found by joining alone. */
    private void theRelaysAreOthersByJoining() throws ReflectiveOperationException {
        FoghornExchange x = Coasts.at(50, 0, 50, 300);
        FoghornExchange y = Coasts.at(50, 0, 50, 100);
        due.is("39 no way to one by both", true, x::isInOrder);
        due.is("39 the same relays", true, y::isInOrder);
        set(get(x, "coast"), "reached", new int[2]);
        set(get(y, "coast"), "reached", new int[2]);
        due.is("39 enough for one step", true, x::isInOrder);
        due.is("39 no way by steps, but one by joining", false, y::isInOrder);
    }

    private static Field field(Object object, String name) throws ReflectiveOperationException {
        Field field = object.getClass().getDeclaredField(name);
        field.setAccessible(true);
        return field;
    }

    private static Object get(Object object, String name) throws ReflectiveOperationException {
        return field(object, name).get(object);
    }

    private static void set(Object object, String name, Object value) throws ReflectiveOperationException {
        field(object, name).set(object, value);
    }

    private static Object element(Object array, int index) {
        return ((Object[]) array)[index];
    }

    private static Object element(Object object, String name, int index) throws ReflectiveOperationException {
        return element(get(object, name), index);
    }
}
