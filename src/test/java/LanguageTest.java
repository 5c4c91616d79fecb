import java.io.IOException;
import java.nio.charset.StandardCharsets;
import java.nio.file.Files;
import java.nio.file.Path;
import java.util.ArrayDeque;
import java.util.ArrayList;
import java.util.Deque;
import java.util.List;
import java.util.regex.Matcher;
import java.util.regex.Pattern;

/** Those rules of LANGUAGE.md that a look at the program's text can tell. */
public final class LanguageTest {
    private static final Path PROGRAM = Path.of("src/main/java/FoghornExchange.java");
    private static final int MOST_LINES_OF_A_METHOD = 60;
    private static final int MOST_CLASSES = 12;
    private static final String[] FORBIDDEN = {
        "->", "::", "\\bcatch\\b", "\\btry\\b", "\\bfinally\\b", "\\bsynchronized\\b", "\\bassert\\b",
        "\\bSystem\\b", "\\bRandom\\b", "\\bThread\\b", "\\bInteger\\b", "\\.equals\\(", "\\bhashCode\\b",
        "\\btoString\\b", "\\bpackage\\b", "\\bprotected\\b", "\\bextends\\b", "Exact\\(", "@",
        "\\bstatic\\s*\\{", "\\binstanceof\\b", "\\bNaN\\b",
    };
    private static final Pattern THROW = Pattern.compile("\\bthrow\\b(?! new (IllegalStateException"
            + "|IllegalArgumentException|IndexOutOfBoundsException|ArithmeticException|NoSuchElementException)"
            + "\\(\"[^\"]*\"\\);)");
    private static final Pattern MATH = Pattern.compile("\\bMath\\.(?!abs\\(|min\\(|max\\()");
    private static final Pattern IMPORT = Pattern.compile("(?m)^import (?!java\\.util\\.NoSuchElementException;$).*");
    private static final Pattern CLASS = Pattern.compile("(?m)^\\s*(public|private static) final class \\w+");

    private final Due due = new Due();
    private final String text;
    private final String code;

    private LanguageTest(String text) {
        this.text = text;
        this.code = text.replaceAll("(?s)/\\*.*?\\*/", "").replaceAll("//.*", "");
    }

    public static void main(String[] args) throws IOException {
        LanguageTest test = new LanguageTest(Files.readString(PROGRAM, StandardCharsets.US_ASCII));
        test.nothingForbidden();
        test.exceptionsByTheirRule();
        test.methodsAreShort();
        test.classesAreFew();
        test.due.close("LanguageTest");
    }

    private void nothingForbidden() {
        for (String pattern : FORBIDDEN) {
            due.same("matches of " + pattern, List.of(), matches(Pattern.compile(pattern)));
        }
        due.same("imports", List.of(), matches(IMPORT));
        due.same("other functions of Math", List.of(), matches(MATH));
    }

    private void exceptionsByTheirRule() {
        due.same("other throw statements", List.of(), matches(THROW));
    }

    private void classesAreFew() {
        due.same("at most 12 classes", true, matches(CLASS).size() <= MOST_CLASSES);
    }

    private List<String> matches(Pattern pattern) {
        List<String> found = new ArrayList<>();
        Matcher matcher = pattern.matcher(code);
        while (matcher.find()) {
            found.add(matcher.group());
        }
        return found;
    }

    /** A block that opens behind a line with a bracket of arguments, and is no class, is a method at most. */
    private void methodsAreShort() {
        Deque<Integer> opened = new ArrayDeque<>();
        Deque<Boolean> ofClass = new ArrayDeque<>();
        int number = 0;
        for (String line : text.split("\n")) {
            number++;
            for (int at = 0; at < line.length(); at++) {
                if (line.charAt(at) == '{') {
                    opened.push(number);
                    ofClass.push(line.contains(" class "));
                } else if (line.charAt(at) == '}' && !opened.isEmpty()) {
                    int lines = number - opened.pop() + 1;
                    boolean isShort = ofClass.pop() || lines <= MOST_LINES_OF_A_METHOD;
                    due.same("the block that ends in line " + number + " is short", true, isShort);
                }
            }
        }
        due.same("blocks left open", 0, opened.size());
    }
}
