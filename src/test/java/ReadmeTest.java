import java.io.IOException;
import java.lang.reflect.Method;
import java.lang.reflect.Modifier;
import java.nio.file.Files;
import java.nio.file.Path;
import java.util.regex.Matcher;
import java.util.regex.Pattern;

/** README.md names every call and constant, and its examples answer what it says; it is run from the project's directory. */
public final class ReadmeTest {
    private static final Pattern EXAMPLE = Pattern.compile("```java\n(.*?)```", Pattern.DOTALL);
    private static final Pattern MADE = Pattern.compile("LawnRings x = new LawnRings\\(\\);.*");
    private static final Pattern TYPED = Pattern.compile("for \\(char c : (\".*\")\\.toCharArray\\(\\)\\) x\\.type\\(c\\);");
    private static final Pattern CALL = Pattern.compile("x\\.(\\w+\\(.*\\)); +// (-?\\d+|[A-Z]+)(:.*)?");
    private static final String[] CONSTANTS = {"BAD", "NOT", "FULL", "NONE", "NULL", "CAST", "INDEX", "SIZE"};

    public static void main(String[] args) throws IOException {
        String page = Files.readString(Path.of("README.md"));
        for (Method m : LawnRings.class.getDeclaredMethods()) {
            if (Modifier.isPublic(m.getModifiers())) {
                Due.that("README.md names " + m.getName(), page.contains("`" + m.getName() + "`"));
            }
        }
        for (String constant : CONSTANTS) {
            Due.that("README.md names " + constant, page.contains("`" + constant + "`"));
        }
        int examples = 0;
        Matcher found = EXAMPLE.matcher(page);
        while (found.find()) {
            examples++;
            example(examples, found.group(1).split("\n"));
        }
        Due.that("README.md has examples", examples > 0);
        namesEveryTest(page);
        Due.end();
    }

    private static void example(int which, String[] lines) {
        Said said = new Said();
        Due.that("example " + which + " begins with a new object", MADE.matcher(lines[0]).matches());
        for (int i = 1; i < lines.length; i++) {
            Matcher typed = TYPED.matcher(lines[i]);
            Matcher call = CALL.matcher(lines[i]);
            if (typed.matches()) {
                said.answer("typed(" + typed.group(1) + ")");
            } else if (call.matches()) {
                String got = said.answer(call.group(1).replace("LawnRings.", ""));
                Due.due("example " + which + ": " + call.group(1), Long.parseLong(got), Said.value(call.group(2)));
            } else {
                Due.that("example " + which + ": '" + lines[i] + "' can be read", false);
            }
        }
    }

    private static void namesEveryTest(String page) throws IOException {
        try (var files = Files.list(Path.of("src/test/java"))) {
            files.map(f -> f.getFileName().toString()).filter(f -> f.endsWith("Test.java")).forEach(f ->
                Due.that("README.md names " + f, page.contains("`" + f.replace(".java", "") + "`")));
        }
    }
}
