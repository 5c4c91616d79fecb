import java.util.ArrayList;
import java.util.Arrays;
import java.util.List;

/**
 * Calls of the face, written as a text: "addStation 0 50, call 0 1 'r' 5". A sign stands between two
 * quotes, and the least and the greatest number are written least and greatest.
 */
final class Script {
    /** One call of a script. */
    static final class Ask {
        final String name;
        final Object[] arguments;

        Ask(String text) {
            String[] words = text.trim().split(" ");
            name = words[0];
            arguments = new Object[words.length - 1];
            for (int index = 0; index < arguments.length; index++) {
                arguments[index] = argument(words[index + 1]);
            }
        }

        @Override
        public String toString() {
            return name + Arrays.toString(arguments);
        }
    }

    private Script() {
    }

    static List<Ask> of(String text) {
        List<Ask> asks = new ArrayList<>();
        for (String part : text.split(",")) {
            if (!part.isBlank()) {
                asks.add(new Ask(part));
            }
        }
        return asks;
    }

    private static Object argument(String word) {
        switch (word) {
            case "true":
                return true;
            case "false":
                return false;
            case "least":
                return Integer.MIN_VALUE;
            case "greatest":
                return Integer.MAX_VALUE;
            default:
                return word.startsWith("'") ? (Object) word.charAt(1) : (Object) Integer.valueOf(word);
        }
    }
}
