import java.io.IOException;
import java.nio.charset.StandardCharsets;
import java.nio.file.Files;
import java.nio.file.Path;
import java.util.List;
import java.util.regex.Matcher;
import java.util.regex.Pattern;

/** What can be seen of LANGUAGE.md in the program's text; it is run from the project's folder. */
public final class LanguageTest {
    private static final Check check = new Check("LanguageTest");
    private static final List<String> IMPORTS =
        List.of("import java.util.ArrayList;", "import java.util.Arrays;", "import java.util.NoSuchElementException;");
    private static final String[] BANNED = {
        "->", "::", "\\bsynchronized\\b", "\\bfinally\\b", "\\btry\\b", "\\bassert\\b", "\\bpackage\\b", "\\bprotected\\b",
        "\\bstatic \\{", "\\bSystem\\.(?!arraycopy\\b)", "\\bThread\\b", "\\bRandom\\b", "Exact\\(", "\\bObject\\b", "\\bdouble\\b",
        "\\bfloat\\b", "\\bhashCode\\b", "\\btoString\\b", "\\bvar\\b", "\\bjava\\.(?!util\\.)"};
    private static final String THROWABLE = "throw new (IllegalStateException|IllegalArgumentException|IndexOutOfBoundsException"
        + "|ArithmeticException|UnsupportedOperationException|NoSuchElementException|RuntimeException)\\(\\);";

    public static void main(String[] args) throws IOException {
        String text = Files.readString(Path.of("src/main/java/EventLog.java"), StandardCharsets.UTF_8);
        check.same("characters 1 to 127 alone", text.chars().allMatch(c -> c > 0 && c < 128), true);
        String code = text.replaceAll("(?s)/\\*.*?\\*/", "").replaceAll("//.*", "");
        for (String banned : BANNED) {
            check.same(banned + " stands in the program", Pattern.compile(banned).matcher(code).find(), false);
        }
        for (String line : code.split("\n")) {
            check.same(line, line.startsWith("import") && !IMPORTS.contains(line), false);
            check.same(line, line.contains("throw new") && !line.trim().matches(THROWABLE), false);
        }
        methodsAreShort(code);
        check.end();
    }

    private static void methodsAreShort(String code) {
        Matcher m = Pattern.compile("(?m)^( {4}| {8})(?!private static final class)[a-zA-Z][^;=]*\\{\n(?s:.*?)\n\\1\\}").matcher(code);
        int methods = 0;
        while (m.find()) {
            methods++;
            check.same("a method's lines: " + m.group().split("\n")[0].trim(), m.group().split("\n").length <= 60, true);
        }
        check.same("methods were found", methods > 100, true);
    }
}
