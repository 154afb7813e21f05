import java.util.ArrayList;
import java.util.List;

/**
 * All that can be seen of an object after a run of calls. Each part is asked of a new object, on which the run is made
 * again, so that no part disturbs another one and no object is used for more calls than promised.
 */
final class Look {
    private static final int MAX_SUBTITLES = 20;
    private static final int MAX_TEXT = 40;
    private static final int MAX_CUTS = 12;
    private static final int MAX_STATES = 4;
    private static final int PART = 100;

    private final List<Call> run;
    private final StringBuilder seen = new StringBuilder();

    private Look(List<Call> run) {
        this.run = run;
    }

    static String after(List<Call> run) {
        Look look = new Look(run);
        look.ask(List.of(), general());
        look.ask(List.of(), texts());
        look.ask(List.of(), List.of(Call.of("clearScript")));
        look.askForScript();
        for (int states = 1; states <= MAX_STATES; states++) {
            look.ask(times("undo", states), general());
        }
        return look.seen.toString();
    }

    private static List<Call> times(String name, int count) {
        List<Call> calls = new ArrayList<>();
        for (int i = 0; i < count; i++) {
            calls.add(Call.of(name, 0));
        }
        return calls;
    }

    private static List<Call> general() {
        List<Call> calls = new ArrayList<>();
        for (String name : new String[] {"subtitles", "cuts", "fault", "shown", "meanSpeed", "leastPace", "bestGap"}) {
            calls.add(Call.of(name));
        }
        for (int i = 0; i <= MAX_CUTS; i++) {
            calls.add(Call.of("cutAt", i));
            calls.add(Call.of("setting", i));
            calls.add(Call.of("why", i));
            calls.add(Call.of("ifSeated", i));
        }
        for (int i = 0; i < MAX_SUBTITLES; i++) {
            for (int what = 0; what <= 6; what++) {
                calls.add(Call.of("subtitle", i, what));
            }
        }
        return calls;
    }

    private static List<Call> texts() {
        List<Call> calls = new ArrayList<>();
        for (int i = 0; i < MAX_SUBTITLES; i++) {
            for (int index = 0; index < MAX_TEXT; index++) {
                calls.add(Call.of("character", i, index));
            }
        }
        return calls;
    }

    /** What stands in the script shows in an empty film. */
    private void askForScript() {
        List<Call> emptied = times("remove", MAX_SUBTITLES);
        emptied.add(Call.of("load"));
        ask(emptied, general());
        ask(emptied, texts());
    }

    private void ask(List<Call> before, List<Call> questions) {
        int room = Call.MOST_CALLS - run.size() - before.size();
        if (room < PART) {
            throw new IllegalStateException("a run of " + run.size() + " calls leaves no room to look at what it made");
        }
        for (int from = 0; from < questions.size(); from += PART) {
            SubtitleSeats x = new SubtitleSeats();
            run.forEach(call -> call.on(x));
            before.forEach(call -> call.on(x));
            for (Call question : questions.subList(from, Math.min(from + PART, questions.size()))) {
                seen.append(question.on(x)).append(' ');
            }
        }
    }
}
