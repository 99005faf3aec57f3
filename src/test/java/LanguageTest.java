import java.io.IOException;
import java.nio.charset.StandardCharsets;
import java.nio.file.Files;
import java.nio.file.Path;
import java.util.List;
import java.util.Set;
import java.util.regex.Matcher;
import java.util.regex.Pattern;

/** Some of the rules of LANGUAGE.md that can be read from the lines of the program. It runs in the project's folder. */
public final class LanguageTest {
    private static final Due due = new Due("LanguageTest");
    private static final Set<String> IMPORTS = Set.of(
            "java.util.ArrayList", "java.util.List", "java.util.Arrays", "java.util.Iterator", "java.util.NoSuchElementException");
    private static final String[] REFUSED = {
        "->", "::", "\\bpackage\\b", "\\bsynchronized\\b", "\\bassert\\b", "\\bfinally\\b", "\\btry\\b", "\\bcatch\\b",
        "\\bprotected\\b", "\\bvolatile\\b", "\\binstanceof\\b", "static \\{", "Exact\\(", "\\bSystem\\.(?!arraycopy\\()",
        "\\bString\\.", "\\bObject\\b", "\\bRandom\\b", "\\bThread\\b", "\\bClass\\b", "\" \\+", "\\+ \"", "\\[\\]\\[\\]\\[\\]",
        "\\bMath\\.(?!max\\(|min\\(|abs\\()", "\\bArrays\\.(?!fill\\(|copyOf\\(|copyOfRange\\()"};
    private static final int MOST_LINES = 60;
    private static final int MOST_CLASSES = 12;

    public static void main(String[] args) throws IOException {
        byte[] bytes = Files.readAllBytes(Path.of("src/main/java/Aquiferward.java"));
        for (byte each : bytes) {
            if (each < 0) {
                due.is("a sign of the program", each & 255, "1 to 127");
            }
        }
        String text = new String(bytes, StandardCharsets.US_ASCII);
        String code = text.replaceAll("(?s)/\\*.*?\\*/", " ").replaceAll("//[^\n]*", " ");
        for (String refused : REFUSED) {
            due.is("the program has " + refused, Pattern.compile(refused).matcher(code).find(), false);
        }
        Matcher imports = Pattern.compile("import ([^;]+);").matcher(code);
        while (imports.find()) {
            due.is("import " + imports.group(1), IMPORTS.contains(imports.group(1)), true);
        }
        Matcher classes = Pattern.compile("\\b(class|enum|interface|record) \\w+").matcher(code);
        int count = 0;
        while (classes.find()) {
            count++;
        }
        due.is("there are " + count + " classes", count <= MOST_CLASSES, true);
        checkMethods(text.lines().toList());
        due.end();
    }

    /** A method stands from a line that ends with a brace to the brace at the same depth. */
    private static void checkMethods(List<String> lines) {
        Pattern head = Pattern.compile("^( ++)(?!(?:if|for|while|switch|else|do)\\b)[^=/*]*\\(([^()]*)\\)[^()]*\\{$");
        for (int at = 0; at < lines.size(); at++) {
            Matcher method = head.matcher(lines.get(at));
            if (!method.matches() || lines.get(at).contains("} else")) {
                continue;
            }
            int end = at;
            while (end < lines.size() && !lines.get(end).equals(method.group(1) + "}")) {
                end++;
            }
            due.is(lines.get(at).trim() + " is short", end - at <= MOST_LINES, true);
            due.is(lines.get(at).trim() + " takes few parameters", method.group(2).split(",").length <= 7, true);
        }
    }
}
