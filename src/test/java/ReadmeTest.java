import java.nio.file.Files;
import java.nio.file.Path;
import java.util.regex.Matcher;
import java.util.regex.Pattern;

/** The example and the settings of README.md, which must be as it says there. */
public final class ReadmeTest {
    private static final Pattern SCRIPT = Pattern.compile("String script = \"([^\"]*)\";");
    private static final Pattern ANSWER = Pattern.compile("film\\.(\\w+)\\(([0-9, ]*)\\); +// (-?\\d+):");

    private static final Pattern SETTING = Pattern.compile("\\| `(\\w+)` \\| (\\d+) to (\\d+) \\| (\\d+) \\|");

    private static int wrong = 0;

    public static void main(String[] args) throws Exception {
        String page = Files.readString(Path.of("README.md"));
        checkExample(page);
        checkSettings(page);
        if (wrong > 0) {
            System.exit(1);
        }
        System.out.println("the example and the settings of README.md are as it says");
    }

    private static void due(String what, double got, double want) {
        if (got != want) {
            wrong++;
            System.out.println("README.md says " + what + ", but it is " + got);
        }
    }

    private static void checkExample(String page) {
        SubtitleSeats film = new SubtitleSeats();
        Matcher script = SCRIPT.matcher(page);
        boolean isFound = script.find();
        for (int i = 0; isFound && i < script.group(1).length(); i++) {
            film.append(script.group(1).charAt(i));
        }
        int answers = 0;
        for (Matcher row = ANSWER.matcher(page); row.find(); answers++) {
            due(row.group(), Call.of(row.group(1), numbers(row.group(2))).on(film), Integer.parseInt(row.group(3)));
        }
        due("five answers", answers, 5);
    }

    private static void checkSettings(String page) throws Exception {
        int settings = 0;
        for (Matcher row = SETTING.matcher(page); row.find(); settings++) {
            SubtitleSeats film = new SubtitleSeats();
            int setting = SubtitleSeats.class.getField(row.group(1)).getInt(null);
            int least = Integer.parseInt(row.group(2));
            int most = Integer.parseInt(row.group(3));
            due(row.group(), film.setting(setting), Integer.parseInt(row.group(4)));
            due(row.group(), film.set(setting, least - 1), SubtitleSeats.BAD_VALUE);
            due(row.group(), film.set(setting, most + 1), SubtitleSeats.BAD_VALUE);
            due(row.group(), film.set(setting, least), Integer.parseInt(row.group(4)));
            due(row.group(), film.set(setting, most), least);
        }
        due("six settings", settings, 6);
    }

    private static int[] numbers(String arguments) {
        return Pattern.compile("\\d+").matcher(arguments).results().mapToInt(found -> Integer.parseInt(found.group())).toArray();
    }
}
