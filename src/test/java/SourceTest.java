import java.io.IOException;
import java.nio.file.Files;
import java.nio.file.Path;
import java.util.List;
import java.util.regex.Matcher;
import java.util.regex.Pattern;

/** Rules of LANGUAGE.md that can be seen in the text of the class; it is run from the project's directory. */
public final class SourceTest {
    private static final String[] RULED_OUT = {"->", "::", "\\btry\\b", "\\bcatch\\b", "\\bfinally\\b", "\\bthrow\\b",
        "\\bthrows\\b", "\\bassert\\b", "\\bsynchronized\\b", "\\bprotected\\b", "\\bpackage\\b", "static \\{",
        "Exact\\b", "MAX_VALUE", "MIN_VALUE", "\\b(float|double)\\b", "\\bwhile \\(true\\)"};
    /** What rule 4 lets be called of the library, as far as the class calls it. */
    private static final List<String> LIBRARY = List.of("Math.max", "Math.min", "Math.abs", "Integer.bitCount",
        "System.arraycopy", "Arrays.fill");
    private static final int LONGEST_METHOD = 60;

    public static void main(String[] args) throws IOException {
        List<String> lines = Files.readAllLines(Path.of("src/main/java/LawnRings.java"));
        StringBuilder code = new StringBuilder();
        for (String line : lines) {
            String bare = line.strip();
            boolean remark = bare.startsWith("//") || bare.startsWith("/*") || bare.startsWith("*");
            code.append(remark ? "" : line.replaceAll("//.*", "")).append('\n');
        }
        for (String wrong : RULED_OUT) {
            Due.that("there is no " + wrong, !Pattern.compile(wrong).matcher(code).find());
        }
        Matcher called = Pattern.compile("\\b[A-Z][A-Za-z]*\\.[a-z][A-Za-z]*").matcher(code);
        while (called.find()) {
            Due.that(called.group() + " is in the library", LIBRARY.contains(called.group()));
        }
        Matcher imported = Pattern.compile("import (.*);").matcher(code);
        while (imported.find()) {
            Due.that(imported.group(1) + " may be imported", imported.group(1).equals("java.util.Arrays"));
        }
        methodsAreShort(code.toString().split("\n"));
        Due.end();
    }

    /** A method ends with the first line that closes a brace as far in as its own line opens one. */
    private static void methodsAreShort(String[] lines) {
        Pattern head = Pattern.compile("( +)[A-Za-z].*\\) \\{");
        for (int i = 0; i < lines.length; i++) {
            Matcher m = head.matcher(lines[i]);
            if (m.matches()) {
                int end = i;
                while (end < lines.length && !lines[end].equals(m.group(1) + "}")) {
                    end++;
                }
                Due.that(lines[i].strip() + " is short", end - i <= LONGEST_METHOD);
            }
        }
    }
}
