import java.util.ArrayList;
import java.util.Arrays;
import java.util.List;

/**
 * What the document says of its terms and of calls among one another holds in every state: each question is compared
 * with other questions, and each "what would be" with what then is. Only the public face tells what is due here.
 * The states come from a counter's own numbers, so every run of this test makes the same ones.
 */
public final class RelationTest {
    private static final int STATES = 400;
    private static final int MOST_QUESTIONS = 90;
    private static final int LONGEST_RUN = Call.MOST_CALLS - MOST_QUESTIONS - 10;
    private static final int NONE = SubtitleSeats.NONE;
    private static final int[] LOWEST = {5, 0, 5, 50, 10, 0};
    private static final int[] HIGHEST = {40, 20, 50, 250, 40, 12};
    private static final int[] FAULTS = {1, 2, 4, 8, 16, 32};

    private static long seed = 7;
    private static int checks = 0;
    private static int wrong = 0;

    /** The run that made the state that is looked at. */
    private static List<Call> run;

    private record Subtitle(int start, int end, String text, int needed, int faults, int lines, int blank) {
        int frames() {
            return end - start;
        }
    }

    public static void main(String[] args) {
        int full = 0;
        for (int i = 0; i < STATES && wrong == 0; i++) {
            run = newRun();
            checkObjectsApart(newRun());
            List<Subtitle> film = film();
            full += film.size() == 20 ? 1 : 0;
            checkTerms(film);
            checkCutsAndSettings();
            checkNeeds(film);
            checkLines(film);
            checkFaults(film);
            checkAt(film);
            checkReading(film);
            checkSeating(film);
            checkBestGap();
            checkSplitAndJoin(film);
            checkRemove(film);
            checkShift(film);
            checkSetEnd(film);
            checkSettings();
            checkUndo();
        }
        due("there are states with 20 subtitles", full > 0, true);
        System.out.println(wrong == 0 ? "all " + checks + " relations hold" : wrong + " relations do not hold");
        if (wrong != 0) {
            System.exit(1);
        }
    }

    private static void due(String what, Object got, Object want) {
        checks++;
        if (!got.equals(want)) {
            wrong++;
            System.out.println(what + ": " + got + ", due is " + want + ", behind " + run);
        }
    }

    // ---- states

    private static int pick(int bound) {
        seed = seed * 6364136223846793005L + 1442695040888963407L;
        return (int) ((seed >>> 33) % bound);
    }

    private static List<Call> newRun() {
        List<Call> calls = new ArrayList<>();
        for (int setting = 0; setting < 6; setting++) {
            if (pick(3) == 0) {
                calls.add(anySet(setting));
            }
        }
        int end = pick(4) == 0 ? 0 : pick(120);
        for (int scripts = pick(5); scripts > 0; scripts--) {
            end = addScript(calls, end, pick(3) == 0 ? 1 : 8 + pick(20));
        }
        for (int cuts = pick(13); cuts > 0; cuts--) {
            calls.add(Call.of("cut", 1 + pick(end + 40)));
        }
        for (int changes = pick(12); changes > 0 && calls.size() < LONGEST_RUN; changes--) {
            calls.add(anyChange(end));
        }
        return calls;
    }

    private static Call anySet(int setting) {
        return Call.of("set", setting, LOWEST[setting] + pick(HIGHEST[setting] - LOWEST[setting] + 1));
    }

    private static Call anyChange(int end) {
        switch (pick(8)) {
            case 0: return Call.of("remove", pick(20));
            case 1: return Call.of("shift", pick(20), pick(60) - 20);
            case 2: return Call.of("setEnd", pick(20), pick(end + 40));
            case 3: return Call.of("join", pick(20));
            case 4: return Call.of("seat");
            case 5: return anySet(pick(6));
            case 6: return Call.of("undo");
            default: return Call.of("split", pick(20));
        }
    }

    private static int addScript(List<Call> calls, int from, int longestText) {
        int end = from;
        StringBuilder script = new StringBuilder();
        while (true) {
            int start = end + pick(3) * pick(8);
            int later = start + 1 + pick(6) * pick(9);
            String entry = (script.length() > 0 ? "|" : "") + start + "-" + later + ":" + text(longestText);
            if (script.length() + entry.length() > 80) {
                break;
            }
            script.append(entry);
            end = later;
        }
        calls.add(Call.of("clearScript"));
        for (char character : script.toString().toCharArray()) {
            calls.add(Call.of("append", character));
        }
        calls.add(Call.of("load"));
        return end;
    }

    private static String text(int longest) {
        int length = 1 + pick(longest);
        StringBuilder text = new StringBuilder();
        for (int i = 0; i < length; i++) {
            boolean mayBeBlank = i > 0 && i < length - 1 && text.charAt(i - 1) != ' ';
            text.append(mayBeBlank && pick(3) == 0 ? ' ' : "abyz,.".charAt(pick(6)));
        }
        return text.toString();
    }

    // ---- questions

    /** Each part of the questions is asked of an object of its own, for none is used for more calls than promised. */
    private static int[] ask(List<Call> questions, Call... changes) {
        int[] answers = new int[questions.size()];
        for (int from = 0; from < answers.length; from += MOST_QUESTIONS) {
            SubtitleSeats x = new SubtitleSeats();
            run.forEach(call -> call.on(x));
            for (Call change : changes) {
                change.on(x);
            }
            for (int i = from; i < answers.length && i < from + MOST_QUESTIONS; i++) {
                answers[i] = (int) questions.get(i).on(x);
            }
        }
        return answers;
    }

    private static int ask(Call question, Call... changes) {
        return ask(List.of(question), changes)[0];
    }

    private static List<Subtitle> film(Call... changes) {
        int count = ask(Call.of("subtitles"), changes);
        List<Call> questions = new ArrayList<>();
        for (int i = 0; i < count; i++) {
            for (int what = 0; what <= 6; what++) {
                questions.add(Call.of("subtitle", i, what));
            }
        }
        int[] answers = ask(questions, changes);
        List<Subtitle> film = new ArrayList<>();
        for (int i = 0; i < count; i++) {
            int[] a = Arrays.copyOfRange(answers, 7 * i, 7 * i + 7);
            film.add(new Subtitle(a[0], a[1], text(i, a[2], changes), a[3], a[4], a[5], a[6]));
        }
        return film;
    }

    private static String text(int subtitle, int length, Call... changes) {
        List<Call> questions = new ArrayList<>();
        for (int index = 0; index <= length; index++) {
            questions.add(Call.of("character", subtitle, index));
        }
        int[] answers = ask(questions, changes);
        due("behind the text", answers[length], NONE);
        StringBuilder text = new StringBuilder();
        for (int index = 0; index < length; index++) {
            text.append((char) answers[index]);
        }
        return text.toString();
    }

    private static List<Integer> cuts(Call... changes) {
        List<Integer> cuts = new ArrayList<>();
        for (int place = ask(Call.of("cuts"), changes) - 1; place >= 0; place--) {
            cuts.add(0, ask(Call.of("cutAt", place), changes));
        }
        return cuts;
    }

    private static List<Integer> settings(Call... changes) {
        List<Integer> settings = new ArrayList<>();
        for (int setting = 0; setting < 6; setting++) {
            settings.add(ask(Call.of("setting", setting), changes));
        }
        return settings;
    }

    private static int setting(int setting) {
        return ask(Call.of("setting", setting));
    }

    // ---- what holds in every state

    /** Two objects that are used in turn answer as they do when each is used alone. */
    private static void checkObjectsApart(List<Call> otherRun) {
        List<Double> alone = answersOfTurns(run, List.of());
        alone.addAll(answersOfTurns(List.of(), otherRun));
        List<Double> together = answersOfTurns(run, otherRun);
        due("two objects in turn", together, alone);
    }

    private static List<Double> answersOfTurns(List<Call> first, List<Call> second) {
        SubtitleSeats x = new SubtitleSeats();
        SubtitleSeats y = new SubtitleSeats();
        List<Double> answers = new ArrayList<>();
        List<Double> answersOfSecond = new ArrayList<>();
        for (int i = 0; i < first.size() || i < second.size(); i++) {
            if (i < first.size()) {
                answers.add(first.get(i).on(x));
                answers.add(x.meanSpeed() + (double) x.bestGap());
            }
            if (i < second.size()) {
                answersOfSecond.add(second.get(i).on(y));
            }
        }
        answers.addAll(answersOfSecond);
        return answers;
    }

    private static void checkTerms(List<Subtitle> film) {
        due("at most 20 subtitles", film.size() <= 20, true);
        int free = 0;
        for (Subtitle subtitle : film) {
            due("in the order of the starts, no frame twice", subtitle.start >= free, true);
            due("the start is below the end", subtitle.start < subtitle.end, true);
            due("a text of 1 to 40 characters", subtitle.text.matches("[a-z ,.]{1,40}"), true);
            due("no blank at either end, no two together", subtitle.text.matches(" .*|.* |.*  .*"), false);
            free = subtitle.end;
        }
        due("the last end", free <= 5000, true);
    }

    private static void checkCutsAndSettings() {
        int before = 0;
        List<Integer> cuts = cuts();
        due("at most 12 cuts", cuts.size() <= 12, true);
        for (int cut : cuts) {
            due("the earliest cut first, none twice", cut > before && cut < 5000, true);
            due("cut at a cut", ask(Call.of("cut", cut)), SubtitleSeats.NOT_POSSIBLE);
            due("uncut", ask(Call.of("uncut", cut)), cuts.size() - 1);
            before = cut;
        }
        due("behind the last cut", ask(Call.of("cutAt", cuts.size())), NONE);
        for (int setting = 0; setting < 6; setting++) {
            due("setting in its range", setting(setting) >= LOWEST[setting] && setting(setting) <= HIGHEST[setting], true);
        }
    }

    private static void checkNeeds(List<Subtitle> film) {
        int speed = setting(SubtitleSeats.SPEED);
        int least = setting(SubtitleSeats.LEAST);
        for (Subtitle subtitle : film) {
            int reading = 25 * subtitle.text.length();
            due("enough frames", subtitle.needed >= least && subtitle.needed * speed >= reading, true);
            due("no frame too many", subtitle.needed == least || (subtitle.needed - 1) * speed < reading, true);
        }
    }

    private static void checkLines(List<Subtitle> film) {
        int width = setting(SubtitleSeats.WIDTH);
        for (int i = 0; i < film.size(); i++) {
            String text = film.get(i).text;
            int from = 0;
            for (int line = 0; line < film.get(i).lines; line++) {
                int end = from + ask(Call.of("line", i, line));
                due("a line ends with a word", end == text.length() || end > from && text.charAt(end) == ' ', true);
                due("a line is too wide with one word alone", end - from > width && text.substring(from, end).contains(" "), false);
                if (end < text.length()) {
                    int next = (text + " ").indexOf(' ', end + 1);
                    due("a further word does not fit", next - from > width, true);
                }
                from = end + 1;
            }
            due("all words are in lines", from, text.length() + 1);
            due("behind the last line", ask(Call.of("line", i, film.get(i).lines)), NONE);
        }
    }

    private static void checkFaults(List<Subtitle> film) {
        int any = 0;
        for (Subtitle subtitle : film) {
            any += subtitle.faults > 0 ? 1 : 0;
            due("no other faults", subtitle.faults >= 0 && subtitle.faults < 64, true);
        }
        due("faulty(0)", ask(Call.of("faulty", 0)), any);
        for (int fault : FAULTS) {
            int count = 0;
            for (Subtitle subtitle : film) {
                count += (subtitle.faults & fault) != 0 ? 1 : 0;
            }
            due("faulty(" + fault + ")", ask(Call.of("faulty", fault)), count);
        }
        due("the fault 1 is that of a reader with SPEED", ask(Call.of("unread", setting(SubtitleSeats.SPEED))),
            ask(Call.of("faulty", 1)));
    }

    private static void checkAt(List<Subtitle> film) {
        for (int i = 0; i < film.size(); i++) {
            Subtitle subtitle = film.get(i);
            boolean isNextThere = i + 1 < film.size() && film.get(i + 1).start == subtitle.end;
            boolean isOneBefore = i > 0 && film.get(i - 1).end == subtitle.start;
            due("at its start", ask(Call.of("at", subtitle.start)), i);
            due("at its last frame", ask(Call.of("at", subtitle.end - 1)), i);
            if (subtitle.end < 5000) {
                due("at its end", ask(Call.of("at", subtitle.end)), isNextThere ? i + 1 : NONE);
            }
            if (subtitle.start > 0) {
                due("ahead of its start", ask(Call.of("at", subtitle.start - 1)), isOneBefore ? i - 1 : NONE);
            }
        }
    }

    private static void checkReading(List<Subtitle> film) {
        int frames = 0;
        int length = 0;
        for (Subtitle subtitle : film) {
            frames += subtitle.frames();
            length += subtitle.text.length();
        }
        due("shown", ask(Call.of("shown")), frames);
        SubtitleSeats x = new SubtitleSeats();
        run.forEach(call -> call.on(x));
        due("meanSpeed", x.meanSpeed(), film.isEmpty() ? 0.0f : (float) length * 25.0f / (float) frames);
        int least = ask(Call.of("leastPace"));
        int before = film.size();
        for (int pace = 1; pace <= 60; pace++) {
            int unread = ask(Call.of("unread", pace));
            due("a faster reader reads as many", unread <= before, true);
            due("all are read from the least pace on", unread == 0, least != NONE && pace >= least);
            before = unread;
        }
    }

    // ---- what would be, and what then is

    private static void checkSeating(List<Subtitle> film) {
        Call seat = Call.of("seat");
        List<Subtitle> seated = film(seat);
        int moved = 0;
        for (int i = 0; i < film.size(); i++) {
            Subtitle before = film.get(i);
            Subtitle after = seated.get(i);
            moved += before.start != after.start || before.end != after.end ? 1 : 0;
            due("seat leaves the text", after.text, before.text);
            due("seat starts none later", after.start <= before.start, true);
            if (before.frames() >= before.needed) {
                due("one that is shown long enough keeps its start", after.start, before.start);
                due("and stays shown long enough", after.frames() >= before.needed, true);
            } else {
                due("one that is too short is not shown for fewer frames", after.frames() >= before.frames(), true);
            }
            if (after.end < before.end || after.frames() > before.frames() && after.frames() > after.needed) {
                due("only a cut shortens one, or shows it longer than it needs", cuts().contains(after.end), true);
            }
        }
        checkTerms(seated);
        due("seat", ask(seat), moved);
        due("ifSeated(0)", ask(Call.of("ifSeated", 0)), moved);
        due("ifSeated(1)", ask(Call.of("ifSeated", 1)), ask(Call.of("faulty", 0), seat));
        due("ifSeated(2)", ask(Call.of("ifSeated", 2)), ask(Call.of("shown"), seat));
    }

    private static void checkBestGap() {
        int best = 0;
        int fewest = 21;
        for (int gap = 0; gap <= 20; gap++) {
            int left = ask(Call.of("faulty", 1), Call.of("set", SubtitleSeats.GAP, gap), Call.of("seat"));
            if (left < fewest) {
                fewest = left;
                best = gap;
            }
        }
        due("bestGap", ask(Call.of("bestGap")), best);
    }

    // ---- changes

    private static void checkSplitAndJoin(List<Subtitle> film) {
        int gap = setting(SubtitleSeats.GAP);
        for (int i = 0; i < film.size(); i++) {
            Subtitle whole = film.get(i);
            due("the best blank", whole.blank == NONE ? whole.text.contains(" ") : whole.text.charAt(whole.blank) != ' ', false);
            Call split = Call.of("split", i);
            boolean isPossible = whole.blank != NONE && whole.frames() >= gap + 2;
            int answer = !isPossible ? SubtitleSeats.NOT_POSSIBLE : film.size() == 20 ? SubtitleSeats.TOO_MANY : whole.blank;
            due("split", ask(split), answer);
            if (answer != whole.blank) {
                continue;
            }
            List<Subtitle> parts = film(split);
            Subtitle first = parts.get(i);
            Subtitle second = parts.get(i + 1);
            due("the part ahead", first.text, whole.text.substring(0, whole.blank));
            due("the part behind", second.text, whole.text.substring(whole.blank + 1));
            int frames = whole.frames() - gap;
            int share = frames * first.text.length() / (whole.text.length() - 1);
            due("times of the first", List.of(first.start, first.frames()),
                List.of(whole.start, Math.min(Math.max(share, 1), frames - 1)));
            due("times of the second", List.of(second.start, second.end), List.of(first.end + gap, whole.end));
            due("join of both", ask(Call.of("join", i), split), whole.text.length());
            due("split and join bring all back", film(split, Call.of("join", i)), film);
        }
    }

    private static void checkRemove(List<Subtitle> film) {
        for (int i = 0; i < film.size(); i++) {
            List<Subtitle> left = new ArrayList<>(film);
            left.remove(i);
            due("remove", ask(Call.of("remove", i)), left.size());
            due("what remove leaves", timesAndTexts(film(Call.of("remove", i))), timesAndTexts(left));
        }
        due("remove of none", ask(Call.of("remove", film.size())), SubtitleSeats.NO_SUCH);
    }

    private static void checkShift(List<Subtitle> film) {
        for (int i = 0; i < film.size(); i++) {
            int back = film.get(i).start - (i > 0 ? film.get(i - 1).end : 0);
            int on = 5000 - film.get(film.size() - 1).end;
            for (int frames : new int[] {-back - 1, -back, -1, 0, 1, on, on + 1}) {
                boolean isTooFar = Math.abs(frames) > 999;
                boolean isPossible = frames >= -back && frames <= on;
                due("shift", ask(Call.of("shift", i, frames)), isTooFar ? SubtitleSeats.BAD_VALUE
                    : isPossible ? film.size() - i : SubtitleSeats.NOT_POSSIBLE);
                checkShifted(film, i, frames, !isTooFar && isPossible ? frames : 0);
            }
        }
    }

    private static void checkShifted(List<Subtitle> film, int number, int frames, int moved) {
        List<String> want = new ArrayList<>();
        for (int i = 0; i < film.size(); i++) {
            Subtitle subtitle = film.get(i);
            int by = i < number ? 0 : moved;
            want.add(subtitle.start + by + "-" + (subtitle.end + by));
        }
        List<Call> questions = new ArrayList<>();
        for (int i = 0; i < film.size(); i++) {
            questions.add(Call.of("subtitle", i, 0));
            questions.add(Call.of("subtitle", i, 1));
        }
        int[] answers = ask(questions, Call.of("shift", number, frames));
        List<String> got = new ArrayList<>();
        for (int i = 0; i < film.size(); i++) {
            got.add(answers[2 * i] + "-" + answers[2 * i + 1]);
        }
        due("times behind shift", got, want);
    }

    private static List<String> timesAndTexts(List<Subtitle> film) {
        List<String> told = new ArrayList<>();
        for (Subtitle subtitle : film) {
            told.add(subtitle.start + "-" + subtitle.end + ":" + subtitle.text);
        }
        return told;
    }

    private static void checkSetEnd(List<Subtitle> film) {
        for (int i = 0; i < film.size(); i++) {
            Subtitle subtitle = film.get(i);
            int last = i + 1 < film.size() ? film.get(i + 1).start : 5000;
            for (int end : new int[] {subtitle.start, subtitle.start + 1, last, last + 1}) {
                boolean isPossible = end > subtitle.start && end <= last;
                due("setEnd", ask(Call.of("setEnd", i, end)), isPossible ? subtitle.end
                    : end > 5000 ? SubtitleSeats.BAD_VALUE : SubtitleSeats.NOT_POSSIBLE);
                due("the end then", ask(Call.of("subtitle", i, 1), Call.of("setEnd", i, end)), isPossible ? end : subtitle.end);
            }
        }
    }

    private static void checkSettings() {
        List<Integer> settings = settings();
        for (int setting = 0; setting < 6; setting++) {
            Call set = anySet(setting);
            List<Integer> want = new ArrayList<>(settings);
            want.set(setting, set.b());
            due("set", ask(set), settings.get(setting));
            due("the settings then", settings(set), want);
        }
    }

    private static void checkUndo() {
        Call[] changes = {Call.of("load"), anyChange(pick(600)), anySet(pick(6)), Call.of("seat"), Call.of("cut", 1 + pick(4999))};
        for (Call change : changes) {
            boolean isRecorded = !change.name().equals("undo") && ask(change) >= 0;
            if (isRecorded) {
                Call undo = Call.of("undo");
                due("undo of " + change, film(change, undo), film());
                due("cuts behind undo of " + change, cuts(change, undo), cuts());
                due("settings behind undo of " + change, settings(change, undo), settings());
            }
        }
    }
}
