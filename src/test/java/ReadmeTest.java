import java.io.IOException;
import java.nio.charset.StandardCharsets;
import java.nio.file.Files;
import java.nio.file.Path;
import java.util.TreeSet;
import java.util.regex.Matcher;
import java.util.regex.Pattern;
import java.util.stream.Collectors;
import java.util.stream.Stream;

/** README.md agrees with the class and with what .ci/run does: its example answers so, and it names each file. */
public final class ReadmeTest {
    private static final Path PAGE = Path.of("README.md");
    private static final Path TESTS = Path.of("src/test/java");
    private static final String MAKING = "FoghornExchange exchange = new FoghornExchange();";
    private static final Pattern EXAMPLE = Pattern.compile("(?s)```java\n(.*?)```");
    private static final Pattern CALL = Pattern.compile(
            "exchange\\.(\\w+)\\((.*)\\); +// (throws \\w+|'.'|\\d+)(: .*)?");
    private static final Pattern TEST_NAME = Pattern.compile("\\b\\w+Test\\b");

    private final Due due = new Due();
    private final String page;

    private ReadmeTest(String page) {
        this.page = page;
    }

    public static void main(String[] args) throws IOException {
        ReadmeTest test = new ReadmeTest(Files.readString(PAGE, StandardCharsets.US_ASCII));
        test.theExampleAnswersAsItSays();
        test.theTestsAreThoseOfTheProject();
        test.due.close("ReadmeTest");
    }

    private void theExampleAnswersAsItSays() {
        Matcher example = EXAMPLE.matcher(page);
        due.same("has an example", true, example.find());
        Face exchange = new Face(new FoghornExchange());
        for (String line : example.group(1).split("\n")) {
            Matcher call = CALL.matcher(line);
            if (call.matches()) {
                Script.Ask ask = new Script.Ask(call.group(1) + " " + call.group(2).replace(", ", " "));
                due.same(line, call.group(3), written(exchange.answer(ask.name, ask.arguments)));
            } else {
                due.same("a line without an answer", true, line.isEmpty() || line.equals(MAKING));
            }
        }
    }

    /** An answer as the page writes it: a sign between quotes, an exception without its package. */
    private static String written(Object answer) {
        if (answer instanceof Character) {
            return "'" + answer + "'";
        }
        return String.valueOf(answer).replaceAll("^throws .*\\.", "throws ");
    }

    private void theTestsAreThoseOfTheProject() throws IOException {
        TreeSet<String> named = new TreeSet<>();
        Matcher name = TEST_NAME.matcher(page);
        while (name.find()) {
            named.add(name.group());
        }
        try (Stream<Path> files = Files.list(TESTS)) {
            due.same("the tests", files.map(file -> file.getFileName().toString())
                    .filter(file -> file.endsWith("Test.java")).map(file -> file.replace(".java", ""))
                    .collect(Collectors.toCollection(TreeSet::new)), named);
        }
    }
}
