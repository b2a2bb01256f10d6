import java.nio.file.Files;
import java.nio.file.Path;
import java.util.regex.Matcher;
import java.util.regex.Pattern;

/** The calls that README.md shows, one behind the other on one object, answer what it says. */
public final class ReadmeTest {
    private static final Pattern CALL = Pattern.compile("house\\.(\\w+\\([-0-9, ]*\\)); +// (-?[0-9]+)(: .*)?");
    private static final Pattern TEXT = Pattern.compile("put\\(house, \"(.*)\"\\);");

    public static void main(String[] args) throws Exception {
        Checks checks = new Checks();
        checks.about("README.md");
        Run house = new Run(checks);
        int calls = 0;
        int texts = 0;
        for (String line : Files.readString(Path.of("README.md")).split("\n")) {
            Matcher call = CALL.matcher(line);
            Matcher text = TEXT.matcher(line);
            if (call.matches()) {
                calls++;
                house.is(call.group(1), Long.parseLong(call.group(2)));
            } else if (text.matches()) {
                texts++;
                house.put(text.group(1));
            } else {
                checks.so("no call without its answer: " + line, !line.startsWith("house."));
            }
        }
        checks.so("calls are shown: " + calls, calls > 30);
        checks.so("texts are shown: " + texts, texts > 3);
        checks.close();
    }
}
