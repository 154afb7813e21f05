import java.util.ArrayList;
import java.util.List;
import java.util.Map;
import java.util.TreeSet;
import java.util.regex.Matcher;
import java.util.regex.Pattern;

/**
 * Runs of calls on new objects, written as rows of text, with the answers that are due.
 *
 * A row is a call with its arguments and, behind "=", its answer: a number or the name of a constant. Other rows:
 * "write TEXT" empties the script and appends the text, "more TEXT" appends only, where "_" stands for a blank and
 * "<a*40>" for 40 times the letter a; "make film N" loads N subtitles, of which number i is shown from 10 * i to
 * 10 * i + 5 and has the letter i as its text; "make cuts N" makes N cuts, at 100, 200 and so on;
 * "repeat N ROW" makes a call N times.
 *
 * Behind each call that is refused, and behind each question, all that can be seen of the object must be as before.
 */
final class Rows {
    private static final Map<String, Integer> VALUES = Map.ofEntries(
        Map.entry("NO_SUCH", SubtitleSeats.NO_SUCH), Map.entry("BAD_VALUE", SubtitleSeats.BAD_VALUE),
        Map.entry("BAD_TEXT", SubtitleSeats.BAD_TEXT), Map.entry("TOO_MANY", SubtitleSeats.TOO_MANY),
        Map.entry("NOT_POSSIBLE", SubtitleSeats.NOT_POSSIBLE), Map.entry("NONE", SubtitleSeats.NONE),
        Map.entry("SPEED", SubtitleSeats.SPEED), Map.entry("GAP", SubtitleSeats.GAP),
        Map.entry("LEAST", SubtitleSeats.LEAST), Map.entry("MOST", SubtitleSeats.MOST),
        Map.entry("WIDTH", SubtitleSeats.WIDTH), Map.entry("SNAP", SubtitleSeats.SNAP),
        Map.entry("min", Integer.MIN_VALUE), Map.entry("max", Integer.MAX_VALUE));
    private static final Pattern REPEATED = Pattern.compile("<(.)\\*(\\d+)>");

    private static final TreeSet<Integer> promises = new TreeSet<>();
    private static int checks = 0;
    private static int wrong = 0;

    private final SubtitleSeats x = new SubtitleSeats();
    private final String title;
    /** The calls that may have changed something. */
    private final List<Call> run = new ArrayList<>();
    private int calls = 0;
    /** What is seen after the run, or null where nobody has looked yet. */
    private String seen = null;

    private Rows(String title) {
        this.title = title;
    }

    static void promise(int number, String what, String text) {
        promises.add(number);
        Rows rows = new Rows("promise " + number + ", " + what);
        int rowNumber = 0;
        for (String row : text.strip().split("\n")) {
            rowNumber++;
            rows.read(rowNumber, row.strip());
        }
    }

    /** Ends the program with the exit code 1 if an answer was wrong or one of these promises has no test. */
    static void finish(int first, int last) {
        for (int promise = first; promise <= last; promise++) {
            if (!promises.contains(promise)) {
                wrong++;
                System.out.println("promise " + promise + " has no test");
            }
        }
        System.out.println(wrong == 0 ? "all " + checks + " answers are as due" : wrong + " answers are not as due");
        if (wrong != 0) {
            System.exit(1);
        }
    }

    private void read(int rowNumber, String row) {
        String[] words = row.split(" ");
        if (words[0].equals("write")) {
            make(Call.of("clearScript"));
            append(row.substring("write ".length()));
        } else if (words[0].equals("more")) {
            append(row.substring("more ".length()));
        } else if (row.startsWith("make film ")) {
            makeFilm(value(words[2]));
        } else if (row.startsWith("make cuts ")) {
            makeCuts(value(words[2]));
        } else if (words[0].equals("repeat")) {
            String repeated = row.substring(row.indexOf(words[1]) + words[1].length()).strip();
            for (int i = value(words[1]); i > 0; i--) {
                check(rowNumber, repeated);
            }
        } else {
            check(rowNumber, row);
        }
    }

    private double make(Call call) {
        calls++;
        if (calls > Call.MOST_CALLS) {
            throw new IllegalStateException(title + ": too many calls on one object");
        }
        double answer = call.on(x);
        if (!call.changesNothing(answer)) {
            remember(call);
        }
        return answer;
    }

    private void remember(Call call) {
        // What clearScript wipes out at once need not be made again.
        while (call.name().equals("clearScript") && !run.isEmpty() && isOfScriptAlone(run.get(run.size() - 1))) {
            run.remove(run.size() - 1);
        }
        run.add(call);
        seen = null;
    }

    private static boolean isOfScriptAlone(Call call) {
        return call.name().equals("append") || call.name().equals("clearScript");
    }

    private void append(String text) {
        String whole = REPEATED.matcher(text).replaceAll(found ->
            Matcher.quoteReplacement(found.group(1).repeat(Integer.parseInt(found.group(2)))));
        for (char character : whole.replace('_', ' ').toCharArray()) {
            if (make(Call.of("append", character)) < 0) {
                throw new IllegalStateException(title + ": the script has no room for " + text);
            }
        }
    }

    private void makeFilm(int count) {
        for (int i = 0; i < count; i += 8) {
            make(Call.of("clearScript"));
            for (int j = i; j < count && j < i + 8; j++) {
                append((j > i ? "|" : "") + 10 * j + "-" + (10 * j + 5) + ":" + (char) ('a' + j));
            }
            make(Call.of("load"));
        }
        make(Call.of("clearScript"));
    }

    private void makeCuts(int count) {
        for (int i = 1; i <= count; i++) {
            make(Call.of("cut", 100 * i));
        }
    }

    private void check(int rowNumber, String row) {
        String[] sides = row.split(" = ");
        String[] words = sides[0].strip().split(" ");
        int[] arguments = new int[words.length - 1];
        for (int i = 0; i < arguments.length; i++) {
            arguments[i] = value(words[i + 1]);
        }
        Call call = Call.of(words[0], arguments);
        double due = words[0].equals("meanSpeed") ? Float.parseFloat(sides[1]) : value(sides[1].strip());
        double got = make(call);
        checks++;
        if (got != due) {
            wrong++;
            System.out.println(title + ", row " + rowNumber + ": " + row + ", but it answered " + got);
        } else if (call.changesNothing(got) && !changesNothing(call)) {
            wrong++;
            System.out.println(title + ", row " + rowNumber + ": " + row + ", but it changed something");
        }
    }

    private boolean changesNothing(Call call) {
        if (seen == null) {
            seen = Look.after(run);
        }
        List<Call> runWithCall = new ArrayList<>(run);
        runWithCall.add(call);
        return Look.after(runWithCall).equals(seen);
    }

    private static int value(String word) {
        return VALUES.containsKey(word) ? VALUES.get(word) : Integer.parseInt(word);
    }
}
