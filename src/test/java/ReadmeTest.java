import java.io.IOException;
import java.lang.reflect.InvocationTargetException;
import java.lang.reflect.Method;
import java.nio.file.Files;
import java.nio.file.Path;
import java.util.regex.Matcher;
import java.util.regex.Pattern;

/** The example of README.md answers what stands behind each of its lines. It runs in the project's folder. */
public final class ReadmeTest {
    private static final Due due = new Due("ReadmeTest");
    private static final String MADE = "Aquiferward land = new Aquiferward();";
    private static final Pattern BLOCK = Pattern.compile("```java\n(.*?)```", Pattern.DOTALL);
    private static final Pattern LINE = Pattern.compile("land\\.(\\w+)\\(([^)]*)\\); // (\\S+)(?: \\(.*\\))?");

    private final Aquiferward land = new Aquiferward();

    public static void main(String[] args) throws IOException, IllegalAccessException {
        Matcher block = BLOCK.matcher(Files.readString(Path.of("README.md")));
        due.is("an example in README.md", block.find(), true);
        String[] lines = block.group(1).split("\n");
        due.is("the first line of the example", lines[0], MADE);
        ReadmeTest example = new ReadmeTest();
        for (int at = 1; at < lines.length; at++) {
            example.follow(lines[at]);
        }
        due.end();
    }

    private void follow(String line) throws IllegalAccessException {
        Matcher told = LINE.matcher(line);
        due.is("a call and its answer in: " + line, told.matches(), true);
        if (told.matches()) {
            due.is(line, answer(told.group(1), told.group(2)), told.group(3));
        }
    }

    /** The answer as a text, or the name of the exception that was thrown. */
    private String answer(String name, String arguments) throws IllegalAccessException {
        for (Method method : Aquiferward.class.getMethods()) {
            if (method.getName().equals(name)) {
                try {
                    return String.valueOf(method.invoke(land, values(arguments)));
                } catch (InvocationTargetException refusal) {
                    return refusal.getCause().getClass().getSimpleName();
                }
            }
        }
        return "no call of this name";
    }

    /** Whole numbers, or a sign between quotes. */
    private static Object[] values(String arguments) {
        if (arguments.isEmpty()) {
            return new Object[0];
        }
        String[] texts = arguments.split(", ");
        Object[] values = new Object[texts.length];
        for (int at = 0; at < texts.length; at++) {
            boolean sign = texts[at].charAt(0) == '\'';
            values[at] = sign ? (Object) texts[at].charAt(1) : (Object) Integer.parseInt(texts[at]);
        }
        return values;
    }
}
