import java.util.ArrayDeque;
import java.util.ArrayList;
import java.util.Collections;
import java.util.Deque;
import java.util.List;

/**
 * Long runs of calls, each answered by the class and by a second, plainer writing of the document, which must agree.
 * The runs come from a counter's own numbers, so every run of this test makes the same calls.
 */
public final class ModelTest {
    private static final int RUNS = 2000;
    private static final int CALLS = Call.MOST_CALLS;
    private static final String[] NAMES = Call.NAMES;

    private static long seed = 1;
    private static final long[] answered = new long[NAMES.length];
    private static final long[] refused = new long[NAMES.length];
    private static final boolean[] gaps = new boolean[21];

    public static void main(String[] args) {
        int runs = args.length > 0 ? Integer.parseInt(args[0]) : RUNS;
        for (int run = 0; run < runs; run++) {
            if (!agrees(run)) {
                System.exit(1);
            }
        }
        if (!reachedAll()) {
            System.exit(1);
        }
        System.out.println(runs + " runs of " + CALLS + " calls agree with the model");
    }

    private static int pick(int bound) {
        seed = seed * 6364136223846793005L + 1442695040888963407L;
        return (int) ((seed >>> 33) % bound);
    }

    private static int among(int... values) {
        return values[pick(values.length)];
    }

    private static boolean agrees(int run) {
        SubtitleSeats x = new SubtitleSeats();
        Model model = new Model();
        StringBuilder story = new StringBuilder();
        int span = among(60, 200, 600, 5000);
        boolean isCrowded = pick(2) == 0;
        Deque<int[]> plan = new ArrayDeque<>();
        if (isCrowded) {
            planCrowdedFilm(plan);
        }
        for (int i = 0; i < CALLS; i++) {
            if (plan.isEmpty() && model.script.isEmpty() && pick(2) == 0) {
                planAppends(plan, entries(span));
            }
            int method = usualMethod(isCrowded);
            int a = argument(method, model, span);
            int b = secondArgument(method, model, a, span);
            if (!plan.isEmpty() && (isCrowded || pick(12) > 0)) {
                int[] call = plan.remove();
                method = call[0];
                a = call[1];
                b = call[2];
            }
            double got = new Call(NAMES[method], a, b).on(x);
            double due = model.answer(method, a, b);
            story.append(NAMES[method]).append('(').append(a).append(", ").append(b).append(") ").append(got).append('\n');
            if (got != due) {
                System.out.println(story);
                System.out.println("run " + run + ": " + NAMES[method] + "(" + a + ", " + b + ") answered " + got
                        + ", the model says " + due);
                return false;
            }
            if (got >= 0) {
                answered[method]++;
            } else {
                refused[method]++;
            }
            if (method == 29) {
                gaps[(int) got] = true;
            }
        }
        return true;
    }

    private static int usualMethod(boolean isCrowded) {
        if (isCrowded && pick(8) > 0) {
            return among(5, 7, 8, 11, 12, 12, 13, 14, 16, 23, 28, 29);
        }
        return pick(6) == 0 ? among(3, 11, 16, 28, 29) : pick(NAMES.length);
    }

    private static void planAppends(Deque<int[]> plan, String text) {
        for (char character : text.toCharArray()) {
            plan.add(new int[] {0, character, 0});
        }
    }

    /** Slow subtitles and fast ones in turn, with a cut behind each slow one: there a larger gap may help. */
    private static void planCrowdedFilm(Deque<int[]> plan) {
        plan.add(new int[] {14, 0, 20 + pick(12)});
        plan.add(new int[] {14, 2, 5 + pick(4)});
        plan.add(new int[] {14, 5, 8 + pick(5)});
        int start = pick(60);
        boolean isFast = false;
        for (int i = 0; i < 3; i++) {
            StringBuilder text = new StringBuilder();
            while (text.length() < 58) {
                int end = start + (isFast ? 6 + pick(8) : 9 + pick(20));
                text.append(text.length() > 0 ? "|" : "").append(start).append('-').append(end).append(':');
                for (int length = isFast ? 10 + pick(6) : 1 + pick(3); length > 0; length--) {
                    text.append((char) ('a' + pick(26)));
                }
                if (!isFast) {
                    plan.add(new int[] {12, end + 5 + pick(8), 0});
                }
                start = end + (isFast ? pick(3) : 6 + pick(14));
                isFast = !isFast;
            }
            planAppends(plan, text.toString());
            plan.add(new int[] {3, 0, 0});
            plan.add(new int[] {1, 0, 0});
        }
    }

    /** Random runs prove little where they never come: each call must have answered and refused where it can. */
    private static boolean reachedAll() {
        String neverRefused = " clearScript seat subtitles cuts shown meanSpeed bestGap ";
        boolean all = true;
        for (int i = 0; i < NAMES.length; i++) {
            if (answered[i] == 0 || refused[i] == 0 && !neverRefused.contains(" " + NAMES[i] + " ")) {
                System.out.println("the runs never reach all of " + NAMES[i]);
                all = false;
            }
        }
        int reached = 0;
        for (boolean gap : gaps) {
            reached += gap ? 1 : 0;
        }
        if (reached < 6) {
            System.out.println("the runs reach only " + reached + " answers of bestGap");
            all = false;
        }
        return all;
    }

    private static String entries(int span) {
        StringBuilder text = new StringBuilder();
        int count = 1 + pick(5);
        int start = pick(span);
        for (int i = 0; i < count; i++) {
            int end = start + among(0, 1, 3, 10, 25, 40, 100) + pick(6) - (pick(20) == 0 ? 4 : 0);
            String entry = Math.max(0, Math.min(start, 5000)) + "-" + Math.max(0, Math.min(end, 5000)) + ":" + words();
            if (text.length() + entry.length() + 1 > 80 && i > 0) {
                break;
            }
            text.append(i > 0 ? "|" : "").append(entry);
            start = pick(4) == 0 ? pick(span) : end + among(0, 0, 1, 2, 5, 8, 30);
        }
        if (pick(6) == 0 && text.length() > 0) {
            text.setCharAt(pick(text.length()), "0123456789-:| a,.A".charAt(pick(18)));
        }
        return text.toString();
    }

    private static String words() {
        int length = among(1, 2, 5, 9, 20, 39, 40, 41);
        StringBuilder text = new StringBuilder();
        for (int i = 0; i < length; i++) {
            boolean mayBeBlank = i > 0 && i < length - 1 && text.charAt(i - 1) != ' ' || pick(300) == 0;
            text.append(mayBeBlank && pick(4) == 0 ? ' ' : "abyz,.xxxxx".charAt(pick(11)));
        }
        return text.toString();
    }

    private static int argument(int method, Model model, int span) {
        if (pick(60) == 0) {
            return among(Integer.MIN_VALUE, Integer.MAX_VALUE, -1, 5000, 5001, 1 << 30, -6);
        }
        switch (NAMES[method]) {
            case "append": return 31 + pick(97);
            case "cut": return pick(3) > 0 ? near(model, span) : pick(5002);
            case "uncut": return model.now.cuts.isEmpty() ? pick(span) : model.now.cuts.get(pick(model.now.cuts.size())) + (pick(6) == 0 ? 1 : 0);
            case "set": case "setting": return pick(8) - 1;
            case "cutAt": return pick(14) - 1;
            case "faulty": return among(0, 1, 2, 4, 8, 16, 32, 32, 3, 64, -1, 63);
            case "unread": return pick(62);
            case "ifSeated": case "why": return pick(5) - 1;
            case "at": return near(model, span);
            default: return pick(model.now.rows.size() + 2) - (pick(10) == 0 ? 1 : 0);
        }
    }

    private static int near(Model model, int span) {
        List<Row> rows = model.now.rows;
        if (rows.isEmpty()) {
            return pick(span);
        }
        Row row = rows.get(pick(rows.size()));
        return (pick(3) == 0 ? row.start : row.end) + pick(27) - 13;
    }

    private static int secondArgument(int method, Model model, int a, int span) {
        if (pick(60) == 0) {
            return among(Integer.MIN_VALUE, Integer.MAX_VALUE, -1, 5000, 5001, 999, 1000, -999, -1000);
        }
        switch (NAMES[method]) {
            case "shift": return pick(3) == 0 ? pick(2002) - 1001 : pick(40) - 20;
            case "setEnd": return near(model, span);
            case "set": return a >= 0 && a < 6 ? Model.LOW[a] - 1 + pick(Model.HIGH[a] - Model.LOW[a] + 3) : pick(40);
            case "subtitle": return pick(9) - 1;
            case "character": return pick(43) - 1;
            case "line": return pick(8) - 1;
            default: return 0;
        }
    }

    private record Row(int start, int end, String text) {
        int shown() {
            return end - start;
        }
    }

    /** Subtitles, cuts and settings; copied whole wherever the past is wanted again. */
    private static final class State {
        List<Row> rows = new ArrayList<>();
        List<Integer> cuts = new ArrayList<>();
        int[] settings = {17, 2, 25, 150, 20, 6};

        State copy() {
            State copy = new State();
            copy.rows.addAll(rows);
            copy.cuts.addAll(cuts);
            copy.settings = settings.clone();
            return copy;
        }

        int needs(Row row) {
            return Math.max(settings[2], (int) Math.ceil(25.0 * row.text.length() / settings[0]));
        }

        int seat() {
            List<Row> before = new ArrayList<>(rows);
            for (int i = 0; i < rows.size(); i++) {
                int start = rows.get(i).start;
                int end = rows.get(i).end;
                int need = needs(rows.get(i));
                int limit = i + 1 < rows.size() ? rows.get(i + 1).start - settings[1] : 5000;
                if (end - start < need) {
                    int later = start + need > limit ? limit : start + need;
                    if (later > end) {
                        end = later;
                    }
                }
                if (end - start < need) {
                    int least = i == 0 ? 0 : rows.get(i - 1).end + settings[1];
                    int earlier = end - need < least ? least : end - need;
                    if (earlier < start) {
                        start = earlier;
                    }
                }
                int cut = nearest(end);
                if (cut != end && cut != -1 && Math.abs(cut - end) <= settings[5] && cut <= limit && cut - start >= need) {
                    end = cut;
                }
                rows.set(i, new Row(start, end, rows.get(i).text));
            }
            int moved = 0;
            for (int i = 0; i < rows.size(); i++) {
                moved += rows.get(i).equals(before.get(i)) ? 0 : 1;
            }
            return moved;
        }

        /** Outward from the frame, the earlier side first. */
        int nearest(int frame) {
            for (int off = 0; off <= 5000; off++) {
                if (cuts.contains(frame - off)) {
                    return frame - off;
                }
                if (cuts.contains(frame + off)) {
                    return frame + off;
                }
            }
            return -1;
        }

        int faults(int i) {
            Row row = rows.get(i);
            int sum = 25 * row.text.length() > settings[0] * row.shown() ? 1 : 0;
            sum += row.shown() < settings[2] ? 2 : 0;
            sum += row.shown() > settings[3] ? 4 : 0;
            sum += i + 1 < rows.size() && rows.get(i + 1).start < row.end + settings[1] ? 8 : 0;
            boolean near = false;
            for (int cut : cuts) {
                near |= cut > row.start && cut < row.end && Math.min(cut - row.start, row.end - cut) < settings[5];
            }
            sum += near ? 16 : 0;
            boolean wide = false;
            for (String line : lines(row)) {
                wide |= line.length() > settings[4];
            }
            return sum + (wide || lines(row).size() > 2 ? 32 : 0);
        }

        List<String> lines(Row row) {
            List<String> lines = new ArrayList<>();
            for (String word : row.text.split(" ")) {
                int last = lines.size() - 1;
                if (last >= 0 && (lines.get(last) + " " + word).length() <= settings[4]) {
                    lines.set(last, lines.get(last) + " " + word);
                } else {
                    lines.add(word);
                }
            }
            return lines;
        }

        int faulty(int mask) {
            int count = 0;
            for (int i = 0; i < rows.size(); i++) {
                count += (faults(i) & mask) != 0 ? 1 : 0;
            }
            return count;
        }

        int unread(int pace) {
            int count = 0;
            for (Row row : rows) {
                count += 25 * row.text.length() > pace * row.shown() ? 1 : 0;
            }
            return count;
        }

        int shown() {
            int sum = 0;
            for (Row row : rows) {
                sum += row.shown();
            }
            return sum;
        }
    }

    private static final class Model {
        static final int[] LOW = {5, 0, 5, 50, 10, 0};
        static final int[] HIGH = {40, 20, 50, 250, 40, 12};

        State now = new State();
        List<State> past = new ArrayList<>();
        String script = "";
        int[] report;

        double answer(int method, int a, int b) {
            State before = now.copy();
            double answer = method < 6 ? ofScript(method, a) : method < 15 ? change(method, a, b) : question(method, a, b);
            boolean isAction = method == 3 || method >= 6 && method < 15;
            if (isAction && answer >= 0) {
                past.add(before);
                if (past.size() > 4) {
                    past.remove(0);
                }
            }
            return answer;
        }

        private double ofScript(int method, int a) {
            switch (NAMES[method]) {
                case "append":
                    if (a < 32 || a > 126) {
                        return -2;
                    }
                    if (script.length() == 80) {
                        return -4;
                    }
                    script += (char) a;
                    return script.length();
                case "clearScript":
                    int length = script.length();
                    script = "";
                    return length;
                case "fault":
                    return fault();
                case "load":
                    return load();
                case "why":
                    return a < 0 || a > 2 ? -2 : report == null ? -6 : report[a];
                default:
                    if (past.isEmpty()) {
                        return -6;
                    }
                    now = past.remove(past.size() - 1);
                    return past.size();
            }
        }

        /** By trial: a beginning is one of a script if one of these ends makes it whole. */
        private static boolean begins(String start) {
            for (String end : new String[] {"", "a", ":a", "1:a", "-1:a", "1-1:a"}) {
                if (isScript(start + end)) {
                    return true;
                }
            }
            return false;
        }

        private static boolean isScript(String text) {
            for (String entry : text.split("\\|", -1)) {
                if (!entry.matches("(0|[1-9][0-9]{0,3})-(0|[1-9][0-9]{0,3}):[a-z,.]([a-z,. ]{0,38}[a-z,.])?") || entry.contains("  ")) {
                    return false;
                }
                String[] parts = entry.split("[-:]");
                if (Integer.parseInt(parts[0]) > 5000 || Integer.parseInt(parts[1]) > 5000) {
                    return false;
                }
            }
            return true;
        }

        private int fault() {
            for (int i = 0; i < script.length(); i++) {
                if (!begins(script.substring(0, i + 1))) {
                    return i;
                }
            }
            return isScript(script) ? -6 : script.length();
        }

        private int load() {
            if (!isScript(script)) {
                return -3;
            }
            report = null;
            int place = 0;
            int added = 0;
            for (String entry : script.split("\\|")) {
                String[] parts = entry.split("[-:]");
                Row row = new Row(Integer.parseInt(parts[0]), Integer.parseInt(parts[1]), parts[2]);
                int reason = reason(row);
                if (reason != 0) {
                    report = new int[] {added, reason, place};
                    return added;
                }
                now.rows.add(row);
                Collections.sort(now.rows, (p, q) -> p.start - q.start);
                added++;
                place += entry.length() + 1;
            }
            return added;
        }

        private int reason(Row row) {
            if (row.start >= row.end) {
                return 1;
            }
            for (int frame = row.start; frame < row.end; frame++) {
                for (Row other : now.rows) {
                    if (other.start <= frame && frame < other.end) {
                        return 2;
                    }
                }
            }
            return now.rows.size() == 20 ? 3 : 0;
        }

        private boolean has(int number) {
            return number >= 0 && number < now.rows.size();
        }

        private int change(int method, int a, int b) {
            List<Row> rows = now.rows;
            switch (NAMES[method]) {
                case "remove":
                    if (!has(a)) {
                        return -1;
                    }
                    rows.remove(a);
                    return rows.size();
                case "shift":
                    return shift(a, b);
                case "setEnd":
                    if (!has(a)) {
                        return -1;
                    }
                    if (b < 0 || b > 5000) {
                        return -2;
                    }
                    if (b <= rows.get(a).start || has(a + 1) && b > rows.get(a + 1).start) {
                        return -5;
                    }
                    int end = rows.get(a).end;
                    rows.set(a, new Row(rows.get(a).start, b, rows.get(a).text));
                    return end;
                case "split":
                    return split(a);
                case "join":
                    return join(a);
                case "seat":
                    return now.seat();
                default:
                    return changeCutOrSetting(method, a, b);
            }
        }

        private int shift(int a, int b) {
            List<Row> rows = now.rows;
            if (!has(a)) {
                return -1;
            }
            if (b < -999 || b > 999) {
                return -2;
            }
            List<Row> shifted = new ArrayList<>(rows.subList(0, a));
            for (Row row : rows.subList(a, rows.size())) {
                shifted.add(new Row(row.start + b, row.end + b, row.text));
            }
            if (shifted.get(a).start < 0 || a > 0 && shifted.get(a).start < rows.get(a - 1).end
                    || shifted.get(rows.size() - 1).end > 5000) {
                return -5;
            }
            now.rows = shifted;
            return rows.size() - a;
        }

        private int split(int a) {
            if (!has(a)) {
                return -1;
            }
            Row row = now.rows.get(a);
            int blank = bestBlank(row.text);
            int gap = now.settings[1];
            if (blank == -6 || row.shown() < gap + 2) {
                return -5;
            }
            if (now.rows.size() == 20) {
                return -4;
            }
            String first = row.text.substring(0, blank);
            String second = row.text.substring(blank + 1);
            int d = row.shown() - gap;
            int share = d * first.length() / (first.length() + second.length());
            share = share < 1 ? 1 : share > d - 1 ? d - 1 : share;
            now.rows.set(a, new Row(row.start, row.start + share, first));
            now.rows.add(a + 1, new Row(row.start + share + gap, row.end, second));
            return blank;
        }

        private static int bestBlank(String text) {
            for (String ahead : new String[] {"\\.", ",", "."}) {
                int best = -6;
                for (int i = 1; i < text.length(); i++) {
                    if (text.charAt(i) == ' ' && text.substring(i - 1, i).matches(ahead)
                            && (best == -6 || off(text, i) < off(text, best))) {
                        best = i;
                    }
                }
                if (best != -6) {
                    return best;
                }
            }
            return -6;
        }

        private static int off(String text, int i) {
            return Math.abs(2 * i - (text.length() - 1));
        }

        private int join(int a) {
            if (!has(a) || !has(a + 1)) {
                return -1;
            }
            String text = now.rows.get(a).text + " " + now.rows.get(a + 1).text;
            if (text.length() > 40) {
                return -4;
            }
            now.rows.set(a, new Row(now.rows.get(a).start, now.rows.get(a + 1).end, text));
            now.rows.remove(a + 1);
            return text.length();
        }

        private int changeCutOrSetting(int method, int a, int b) {
            switch (NAMES[method]) {
                case "cut":
                    if (a < 1 || a > 4999) {
                        return -2;
                    }
                    if (now.cuts.contains(a)) {
                        return -5;
                    }
                    if (now.cuts.size() == 12) {
                        return -4;
                    }
                    now.cuts.add(a);
                    Collections.sort(now.cuts);
                    return now.cuts.size();
                case "uncut":
                    return now.cuts.remove((Integer) a) ? now.cuts.size() : -1;
                default:
                    if (a < 0 || a > 5) {
                        return -1;
                    }
                    if (b < LOW[a] || b > HIGH[a]) {
                        return -2;
                    }
                    int value = now.settings[a];
                    now.settings[a] = b;
                    return value;
            }
        }

        private double question(int method, int a, int b) {
            switch (NAMES[method]) {
                case "subtitles": return now.rows.size();
                case "subtitle": return !has(a) ? -1 : about(a, b);
                case "character":
                    return !has(a) ? -1 : b < 0 ? -2 : b < now.rows.get(a).text.length() ? now.rows.get(a).text.charAt(b) : -6;
                case "line":
                    return !has(a) ? -1 : b < 0 ? -2 : b < now.lines(now.rows.get(a)).size() ? now.lines(now.rows.get(a)).get(b).length() : -6;
                case "at": return a < 0 || a > 4999 ? -2 : shownAt(a);
                case "cuts": return now.cuts.size();
                case "cutAt": return a < 0 ? -2 : a < now.cuts.size() ? now.cuts.get(a) : -6;
                case "setting": return a < 0 || a > 5 ? -1 : now.settings[a];
                case "faulty": return a == 0 ? now.faulty(63) : List.of(1, 2, 4, 8, 16, 32).contains(a) ? now.faulty(a) : -2;
                case "shown": return now.shown();
                case "meanSpeed": return meanSpeed();
                case "unread": return a < 1 || a > 60 ? -2 : now.unread(a);
                case "leastPace": return leastPace();
                case "ifSeated": return a < 0 || a > 2 ? -2 : ifSeated(a);
                default: return bestGap();
            }
        }

        private int about(int a, int b) {
            Row row = now.rows.get(a);
            switch (b) {
                case 0: return row.start;
                case 1: return row.end;
                case 2: return row.text.length();
                case 3: return now.needs(row);
                case 4: return now.faults(a);
                case 5: return now.lines(row).size();
                case 6: return bestBlank(row.text);
                default: return -2;
            }
        }

        private int shownAt(int frame) {
            for (Row row : now.rows) {
                if (row.start <= frame && frame < row.end) {
                    return now.rows.indexOf(row);
                }
            }
            return -6;
        }

        private float meanSpeed() {
            int sum = 0;
            for (Row row : now.rows) {
                sum += row.text.length();
            }
            return now.rows.isEmpty() ? 0.0f : (float) sum * 25.0f / (float) now.shown();
        }

        private int leastPace() {
            int pace = 1;
            while (pace <= 60 && now.unread(pace) > 0) {
                pace++;
            }
            return pace > 60 ? -6 : pace;
        }

        private int ifSeated(int what) {
            State then = now.copy();
            int moved = then.seat();
            return what == 0 ? moved : what == 1 ? then.faulty(63) : then.shown();
        }

        private int bestGap() {
            int[] left = new int[21];
            for (int gap = 0; gap <= 20; gap++) {
                State then = now.copy();
                then.settings[1] = gap;
                then.seat();
                left[gap] = then.faulty(1);
            }
            int best = 20;
            for (int gap = 19; gap >= 0; gap--) {
                best = left[gap] <= left[best] ? gap : best;
            }
            return best;
        }
    }
}
