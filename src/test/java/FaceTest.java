import java.lang.reflect.Constructor;
import java.lang.reflect.Field;
import java.lang.reflect.Method;
import java.lang.reflect.Modifier;
import java.util.ArrayList;
import java.util.List;
import java.util.TreeSet;

/** The class has the document's face, and no other member that is not private. */
public final class FaceTest {
    private static final String[] FACE = {
        "int addStation(int, int) IllegalArgumentException IllegalStateException",
        "int move(int, int) IndexOutOfBoundsException IllegalArgumentException",
        "boolean setOn(int, boolean) IndexOutOfBoundsException",
        "int stations()",
        "int placeOf(int) IndexOutOfBoundsException",
        "boolean isOn(int) IndexOutOfBoundsException",
        "boolean hears(int, int) IndexOutOfBoundsException IllegalArgumentException",
        "int busyWith(int) IndexOutOfBoundsException NoSuchElementException",
        "int relays(int, int) IndexOutOfBoundsException IllegalArgumentException NoSuchElementException",
        "int relaysByJoining(int, int) IndexOutOfBoundsException IllegalArgumentException NoSuchElementException",
        "int onWay(int, int, int) IndexOutOfBoundsException IllegalArgumentException NoSuchElementException",
        "int call(int, int, char, int) IndexOutOfBoundsException IllegalArgumentException IllegalStateException",
        "int cancel(int) NoSuchElementException IllegalStateException",
        "char raise(int, char) NoSuchElementException IllegalArgumentException IllegalStateException",
        "char stateOf(int) NoSuchElementException",
        "char urgencyOf(int) NoSuchElementException",
        "int leftOf(int) NoSuchElementException",
        "int channelOf(int) NoSuchElementException IllegalStateException",
        "int interruptions(int) NoSuchElementException",
        "int speakerOn(int) IndexOutOfBoundsException NoSuchElementException",
        "int calls()",
        "int waiting()",
        "int inLine(int) NoSuchElementException",
        "int inLineByCounting(int) NoSuchElementException",
        "int pass(int) IllegalArgumentException",
        "int time()",
        "int setWatch(int, int) IndexOutOfBoundsException IllegalArgumentException",
        "int report(int) IndexOutOfBoundsException IllegalStateException",
        "int sinceReport(int) IndexOutOfBoundsException IllegalStateException",
        "int missed(int) IndexOutOfBoundsException",
        "int logged()",
        "int logTime(int) NoSuchElementException",
        "char logKind(int) NoSuchElementException",
        "int logNumber(int) NoSuchElementException",
        "long waited()",
        "double meanWait() ArithmeticException",
        "float channelShare(int) IndexOutOfBoundsException ArithmeticException",
        "boolean isInOrder()",
    };
    private static final int NOT_PRIVATE = 0;

    private final Due due = new Due();

    public static void main(String[] args) {
        FaceTest test = new FaceTest();
        test.classIsPublicAndFinal();
        test.methodsAreThoseOfTheDocument();
        test.nothingElseIsSeen();
        test.due.close("FaceTest");
    }

    private void classIsPublicAndFinal() {
        int modifiers = FoghornExchange.class.getModifiers();
        due.same("public", true, Modifier.isPublic(modifiers));
        due.same("final", true, Modifier.isFinal(modifiers));
        due.same("of no other class", Object.class, FoghornExchange.class.getSuperclass());
        due.same("of no interface", 0, FoghornExchange.class.getInterfaces().length);
    }

    private void methodsAreThoseOfTheDocument() {
        TreeSet<String> seen = new TreeSet<>();
        TreeSet<String> hidden = new TreeSet<>();
        TreeSet<String> names = new TreeSet<>();
        for (Method method : FoghornExchange.class.getDeclaredMethods()) {
            if (Modifier.isPrivate(method.getModifiers())) {
                hidden.add(method.getName());
            } else {
                seen.add(signature(method));
                names.add(method.getName());
                due.same(method.getName() + " is public and no more", Modifier.PUBLIC, method.getModifiers());
            }
        }
        due.same("the methods", new TreeSet<>(List.of(FACE)), seen);
        hidden.retainAll(names);
        due.same("private methods with the name of a public one", new TreeSet<String>(), hidden);
    }

    /** The number of a method's promise: they stand in the order of the face, behind the constructor's. */
    static int promiseOf(String method) {
        for (int index = 0; index < FACE.length; index++) {
            if (FACE[index].contains(" " + method + "(")) {
                return index + 2;
            }
        }
        throw new IllegalArgumentException(method);
    }

    private static String signature(Method method) {
        List<String> arguments = new ArrayList<>();
        for (Class<?> argument : method.getParameterTypes()) {
            arguments.add(argument.getSimpleName());
        }
        StringBuilder text = new StringBuilder(method.getReturnType().getSimpleName());
        text.append(' ').append(method.getName()).append('(').append(String.join(", ", arguments)).append(')');
        for (Class<?> thrown : method.getExceptionTypes()) {
            text.append(' ').append(thrown.getSimpleName());
        }
        return text.toString();
    }

    private void nothingElseIsSeen() {
        Constructor<?>[] constructors = FoghornExchange.class.getDeclaredConstructors();
        due.same("one constructor", 1, constructors.length);
        due.same("which is public", Modifier.PUBLIC, constructors[0].getModifiers());
        due.same("without arguments", 0, constructors[0].getParameterCount());
        for (Field field : FoghornExchange.class.getDeclaredFields()) {
            due.same(field.getName() + " is private", true, Modifier.isPrivate(field.getModifiers()));
            boolean isStatic = Modifier.isStatic(field.getModifiers());
            due.same(field.getName() + " if static is final", true,
                    !isStatic || Modifier.isFinal(field.getModifiers()));
        }
        for (Class<?> inside : FoghornExchange.class.getDeclaredClasses()) {
            int seen = inside.getModifiers() & (Modifier.PUBLIC | Modifier.PROTECTED);
            due.same(inside.getName() + " is not seen", NOT_PRIVATE, seen);
            due.same(inside.getName() + " is static", true, Modifier.isStatic(inside.getModifiers()));
        }
    }
}
