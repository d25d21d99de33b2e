import java.nio.file.Files;
import java.nio.file.Path;
import java.util.regex.Matcher;
import java.util.regex.Pattern;

/** The example of README.md: each call in it answers the number that stands behind it. */
public final class ReadmeTest {
    private static final Pattern TEXT = Pattern.compile("for \\(char letter : \"(.*)\"\\.toCharArray\\(\\)\\) \\{");
    private static final Pattern CALL = Pattern.compile("x\\.(\\w+\\(.*\\)); +// (-?\\d+).*");
    private static final int LEAST_CALLS = 10;

    public static void main(String[] args) throws Exception {
        String readme = Files.readString(Path.of("README.md"));
        int from = readme.indexOf("```java");
        int end = readme.indexOf("```", from + 1);
        Check.due("an example", from >= 0 && end > from ? 1 : 0, 1);
        Told told = Told.fresh();
        int found = 0;
        for (String line : readme.substring(from, end).split("\n")) {
            Matcher text = TEXT.matcher(line);
            Matcher call = CALL.matcher(line);
            if (text.matches()) {
                told.write(text.group(1));
            } else if (call.matches()) {
                told.due(call.group(1), Long.parseLong(call.group(2)));
                found++;
            }
        }
        Check.due("calls of the example", found >= LEAST_CALLS ? 1 : 0, 1);
        Check.end();
    }
}
