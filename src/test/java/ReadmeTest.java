import java.io.IOException;
import java.lang.reflect.Method;
import java.lang.reflect.Modifier;
import java.nio.file.DirectoryStream;
import java.nio.file.Files;
import java.nio.file.Path;
import java.util.regex.Matcher;
import java.util.regex.Pattern;

/** README.md: its examples answer what it says, and it names every call and every test. */
public final class ReadmeTest {
    private static final Pattern EXAMPLE = Pattern.compile("(?s)```java\n(.*?)```");
    private static final Pattern CALL = Pattern.compile("x\\.(\\w+)\\((.*)\\); +// (-?\\d+): .*");
    private static final Pattern TEXT = Pattern.compile("for \\(char c : \"(.*)\"\\.toCharArray\\(\\)\\) \\{");
    /** What else an example has: all of it is done by the lines around it. */
    private static final Pattern FRAME = Pattern.compile("FoldKeeper x = new FoldKeeper\\(\\);| {4}x\\.feed\\(c\\);|\\}");

    private static int calls = 0;

    public static void main(String[] args) throws IOException {
        String page = Files.readString(Path.of("README.md"));
        examples(page);
        namesEveryCall(page);
        namesEveryTest(page);
        Check.close();
    }

    /** The examples go on with one object, as on the page. */
    private static void examples(String page) {
        Keeper x = new Keeper();
        Matcher example = EXAMPLE.matcher(page);
        while (example.find()) {
            for (String line : example.group(1).split("\n")) {
                follow(x, line);
            }
        }
        Check.holds("the page has examples", calls > 0);
    }

    private static void follow(Keeper x, String line) {
        Matcher call = CALL.matcher(line);
        Matcher text = TEXT.matcher(line);
        if (call.matches()) {
            calls++;
            x.due(Integer.parseInt(call.group(3)), call.group(1), numbers(call.group(2)));
        } else if (text.matches()) {
            x.feeds(text.group(1).replace("\\\"", "\""));
        } else {
            Check.holds("an example has a line that is not followed: " + line, FRAME.matcher(line).matches());
        }
    }

    private static int[] numbers(String args) {
        if (args.isEmpty()) {
            return new int[0];
        }
        String[] told = args.split(", ");
        int[] numbers = new int[told.length];
        for (int i = 0; i < told.length; i++) {
            numbers[i] = told[i].startsWith("'") ? told[i].charAt(1) : Integer.parseInt(told[i]);
        }
        return numbers;
    }

    private static void namesEveryCall(String page) {
        for (Method m : FoldKeeper.class.getDeclaredMethods()) {
            if (Modifier.isPublic(m.getModifiers())) {
                Check.holds("the page names " + m.getName(), page.contains("`" + m.getName() + "`"));
            }
        }
    }

    private static void namesEveryTest(String page) throws IOException {
        try (DirectoryStream<Path> tests = Files.newDirectoryStream(Path.of("src/test/java"), "*Test.java")) {
            for (Path test : tests) {
                String name = test.getFileName().toString().replace(".java", "");
                Check.holds("the page names " + name, page.contains("| `" + name + "` |"));
            }
        }
    }
}
