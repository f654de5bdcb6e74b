import java.io.IOException;
import java.nio.file.Files;
import java.nio.file.Path;
import java.util.regex.Matcher;
import java.util.regex.Pattern;

/** The calls that README.md shows answer what it says. It is run from the project's directory. */
public final class ReadmeTest {
    private static final Pattern CALL = Pattern.compile("service\\.(\\w+)\\(([^)]*)\\); *// (.*)");
    private static final Pattern NUMBER = Pattern.compile("(\\d+)\\b.*");
    private static final int SHOWN = 29;

    public static void main(String[] args) throws IOException {
        DaySimulate service = new DaySimulate();
        int shown = 0;
        for (String line : Files.readAllLines(Path.of("README.md"))) {
            Matcher m = CALL.matcher(line);
            if (m.matches()) {
                shown++;
                String call = (m.group(1) + " " + m.group(2).replace(",", "")).trim();
                Matcher number = NUMBER.matcher(m.group(3));
                Check.same(line, number.matches() ? number.group(1) : "done", Asked.of(service, call));
            }
        }
        int found = shown;
        Check.due("calls that it shows", SHOWN, () -> found);
        Check.finish();
    }
}
