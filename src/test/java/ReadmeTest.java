import java.io.IOException;
import java.nio.file.Files;
import java.nio.file.Path;
import java.util.Arrays;
import java.util.regex.Matcher;
import java.util.regex.Pattern;

/** README.md's example answers as it says, and its list has each call of the class once. */
public final class ReadmeTest {
    private static final Pattern CALL =
            Pattern.compile("site\\.(\\w+\\([^)]*\\)); +// (-?\\d+|[A-Z]+_[A-Z]+)\\b.*");
    private static final Pattern WRITTEN = Pattern.compile(".*\"(.*)\"\\.toCharArray\\(\\).*");
    private static final Pattern LISTED = Pattern.compile("\\| `(\\w+)\\((.*)\\)` \\|.*");

    public static void main(String[] args) throws IOException, ReflectiveOperationException {
        String readme = Files.readString(Path.of("README.md"));
        exampleAnswers(readme.replaceFirst("(?s).*?```java\n(.*?)```.*", "$1"));
        listHasEachCall(readme);
        Due.end();
    }

    private static void exampleAnswers(String example) throws ReflectiveOperationException {
        Run run = Run.of();
        int tried = 0;
        for (String line : example.split("\n")) {
            Matcher call = CALL.matcher(line);
            Matcher written = WRITTEN.matcher(line);
            if (call.matches()) {
                run.due(call.group(1), answer(call.group(2)));
                tried++;
            } else if (written.matches()) {
                run.write(written.group(1));
            } else {
                Due.is("whether README.md has a call without an answer: " + line,
                        line.startsWith("site.") ? 1 : 0, 0);
            }
        }
        Due.is("whether README.md's example was found", tried > 20 ? 1 : 0, 1);
    }

    private static int answer(String told) throws ReflectiveOperationException {
        boolean error = Character.isUpperCase(told.charAt(0));
        return error ? CranePermits.class.getField(told).getInt(null) : Integer.parseInt(told);
    }

    private static void listHasEachCall(String readme) {
        int listed = 0;
        for (String line : readme.split("\n")) {
            Matcher call = LISTED.matcher(line);
            if (call.matches()) {
                int arguments = call.group(2).isEmpty() ? 0 : call.group(2).split(", ").length;
                Due.is("how many calls there are like " + line,
                        callsWith(call.group(1), arguments), 1);
                listed++;
            }
        }
        Due.is("the calls in README.md's list", listed, 24);
    }

    private static long callsWith(String name, int arguments) {
        return Arrays.stream(CranePermits.class.getMethods())
                .filter(m -> m.getName().equals(name) && m.getParameterCount() == arguments)
                .filter(m -> m.getDeclaringClass() == CranePermits.class).count();
    }
}
