/** One call of the public face, by its name, so that runs of calls can be written as rows and made again. */
record Call(String name, int a, int b) {
    static final String[] NAMES = {"append", "clearScript", "fault", "load", "why", "undo", "remove", "shift",
        "setEnd", "split", "join", "seat", "cut", "uncut", "set", "subtitles", "subtitle", "character", "line", "at",
        "cuts", "cutAt", "setting", "faulty", "shown", "meanSpeed", "unread", "leastPace", "ifSeated", "bestGap"};
    private static final int FIRST_QUESTION = 15;

    /** More calls than that are not promised on one object. */
    static final int MOST_CALLS = 512;

    static Call of(String name, int... arguments) {
        return new Call(name, arguments.length > 0 ? arguments[0] : 0, arguments.length > 1 ? arguments[1] : 0);
    }

    double on(SubtitleSeats x) {
        switch (name) {
            case "append": return x.append(a);
            case "clearScript": return x.clearScript();
            case "fault": return x.fault();
            case "load": return x.load();
            case "why": return x.why(a);
            case "undo": return x.undo();
            case "remove": return x.remove(a);
            case "shift": return x.shift(a, b);
            case "setEnd": return x.setEnd(a, b);
            case "split": return x.split(a);
            case "join": return x.join(a);
            case "seat": return x.seat();
            case "cut": return x.cut(a);
            case "uncut": return x.uncut(a);
            case "set": return x.set(a, b);
            case "subtitles": return x.subtitles();
            case "subtitle": return x.subtitle(a, b);
            case "character": return x.character(a, b);
            case "line": return x.line(a, b);
            case "at": return x.at(a);
            case "cuts": return x.cuts();
            case "cutAt": return x.cutAt(a);
            case "setting": return x.setting(a);
            case "faulty": return x.faulty(a);
            case "shown": return x.shown();
            case "meanSpeed": return x.meanSpeed();
            case "unread": return x.unread(a);
            case "leastPace": return x.leastPace();
            case "ifSeated": return x.ifSeated(a);
            case "bestGap": return x.bestGap();
            default: throw new IllegalArgumentException("no call " + name);
        }
    }

    /** A refused call, a question, and undo without a history leave all as it was. */
    boolean changesNothing(double answer) {
        if (answer < 0 || name.equals("fault") || name.equals("why")) {
            return true;
        }
        for (int i = FIRST_QUESTION; i < NAMES.length; i++) {
            if (NAMES[i].equals(name)) {
                return true;
            }
        }
        return false;
    }
}
