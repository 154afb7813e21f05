/**
 * The subtitles of a film, seated in time so that no line is read faster than told.
 *
 * All rows are made in constructors and used again: no call makes an object, so that a run of any
 * calls takes no more room than its first one.
 */
public final class SubtitleSeats {

    public static final int NO_SUCH = -1;
    public static final int BAD_VALUE = -2;
    public static final int BAD_TEXT = -3;
    public static final int TOO_MANY = -4;
    public static final int NOT_POSSIBLE = -5;
    public static final int NONE = -6;

    public static final int SPEED = 0, GAP = 1, LEAST = 2, MOST = 3, WIDTH = 4, SNAP = 5;

    private static final int SETTINGS = 6;
    private static final int[] LOWEST = {5, 0, 5, 50, 10, 0};
    private static final int[] HIGHEST = {40, 20, 50, 250, 40, 12};
    private static final int[] AT_FIRST = {17, 2, 25, 150, 20, 6};

    private static final int LAST_FRAME = 5000;
    private static final int FRAMES_A_SECOND = 25;
    private static final int MAX_SUBTITLES = 20;
    private static final int MAX_TEXT = 40;
    private static final int MAX_CUTS = 12;
    private static final int MAX_SCRIPT = 80;
    private static final int MAX_STATES = 4;
    private static final int MAX_SHIFT = 999;
    private static final int MAX_PACE = 60;
    private static final int MAX_LINES = 2;

    private static final int FAULT_SPEED = 1;
    private static final int FAULT_SHORT = 2;
    private static final int FAULT_LONG = 4;
    private static final int FAULT_GAP = 8;
    private static final int FAULT_CUT = 16;
    private static final int FAULT_LINES = 32;
    private static final int ANY_FAULT = 63;

    private static final int REASON_NONE = 0;
    private static final int REASON_TIMES = 1;
    private static final int REASON_SHOWN = 2;
    private static final int REASON_FULL = 3;

    private final Film film;
    private final Film trial;
    private final History history;
    private final Script script;
    /** What why answers, by its argument. */
    private final int[] report;

    public SubtitleSeats() {
        film = new Film();
        trial = new Film();
        history = new History();
        script = new Script();
        report = new int[] {NONE, NONE, NONE};
    }

    // ---- script and history

    public int append(int character) {
        if (character < 32 || character > 126) {
            return BAD_VALUE;
        }
        if (script.length >= MAX_SCRIPT) {
            return TOO_MANY;
        }
        script.characters[script.length] = (char) character;
        script.length++;
        return script.length;
    }

    public int clearScript() {
        int before = script.length;
        script.length = 0;
        return before;
    }

    public int fault() {
        return script.findFault();
    }

    public int load() {
        if (script.findFault() != NONE) {
            return BAD_TEXT;
        }
        history.record(film);
        writeReport(NONE, NONE, NONE);
        script.rewind();
        int added = 0;
        // The bound only shows the end: the script runs out of entries far earlier.
        for (int entry = 0; entry < MAX_SCRIPT && script.readEntry(); entry++) {
            int reason = film.reasonAgainst(script.start, script.end);
            if (reason != REASON_NONE) {
                writeReport(entry, reason, script.entryPlace);
                break;
            }
            Subtitle row = film.rows[film.openRowAt(script.start)];
            row.start = script.start;
            row.end = script.end;
            row.takeText(script.characters, script.textPlace, script.textLength);
            added++;
            if (!script.take('|')) {
                break;
            }
        }
        return added;
    }

    public int why(int what) {
        if (what < 0 || what >= report.length) {
            return BAD_VALUE;
        }
        return report[what];
    }

    public int undo() {
        if (history.count < 1) {
            return NONE;
        }
        history.restore(film);
        return history.count;
    }

    // ---- changes

    public int remove(int subtitle) {
        if (!film.has(subtitle)) {
            return NO_SUCH;
        }
        history.record(film);
        film.closeRow(subtitle);
        return film.count;
    }

    public int shift(int subtitle, int frames) {
        if (!film.has(subtitle)) {
            return NO_SUCH;
        }
        if (frames < -MAX_SHIFT || frames > MAX_SHIFT) {
            return BAD_VALUE;
        }
        if (film.rows[subtitle].start + frames < film.endBefore(subtitle)
                || film.rows[film.count - 1].end + frames > LAST_FRAME) {
            return NOT_POSSIBLE;
        }
        history.record(film);
        for (int i = subtitle; i < film.count; i++) {
            film.rows[i].start += frames;
            film.rows[i].end += frames;
        }
        return film.count - subtitle;
    }

    public int setEnd(int subtitle, int frame) {
        if (!film.has(subtitle)) {
            return NO_SUCH;
        }
        if (frame < 0 || frame > LAST_FRAME) {
            return BAD_VALUE;
        }
        Subtitle row = film.rows[subtitle];
        if (frame <= row.start || frame > film.startBehind(subtitle)) {
            return NOT_POSSIBLE;
        }
        history.record(film);
        int before = row.end;
        row.end = frame;
        return before;
    }

    public int split(int subtitle) {
        if (!film.has(subtitle)) {
            return NO_SUCH;
        }
        int blank = film.rows[subtitle].bestBlank();
        if (blank == NONE || film.rows[subtitle].frames() < film.values[GAP] + 2) {
            return NOT_POSSIBLE;
        }
        if (film.count >= MAX_SUBTITLES) {
            return TOO_MANY;
        }
        history.record(film);
        film.splitRow(subtitle, blank);
        return blank;
    }

    public int join(int subtitle) {
        if (!film.has(subtitle) || subtitle >= film.count - 1) {
            return NO_SUCH;
        }
        int length = film.rows[subtitle].length + 1 + film.rows[subtitle + 1].length;
        if (length > MAX_TEXT) {
            return TOO_MANY;
        }
        history.record(film);
        film.joinRows(subtitle);
        return length;
    }

    public int seat() {
        history.record(film);
        return film.seatAll(film.values[GAP]);
    }

    public int cut(int frame) {
        if (frame < 1 || frame >= LAST_FRAME) {
            return BAD_VALUE;
        }
        if (film.findCut(frame) != NONE) {
            return NOT_POSSIBLE;
        }
        if (film.cutCount >= MAX_CUTS) {
            return TOO_MANY;
        }
        history.record(film);
        film.addCut(frame);
        return film.cutCount;
    }

    public int uncut(int frame) {
        int place = film.findCut(frame);
        if (place == NONE) {
            return NO_SUCH;
        }
        history.record(film);
        film.removeCut(place);
        return film.cutCount;
    }

    public int set(int setting, int value) {
        if (setting < 0 || setting >= SETTINGS) {
            return NO_SUCH;
        }
        if (value < LOWEST[setting] || value > HIGHEST[setting]) {
            return BAD_VALUE;
        }
        history.record(film);
        int before = film.values[setting];
        film.values[setting] = value;
        return before;
    }

    // ---- what there is; these methods change nothing

    public int subtitles() {
        return film.count;
    }

    public int subtitle(int subtitle, int what) {
        if (!film.has(subtitle)) {
            return NO_SUCH;
        }
        Subtitle row = film.rows[subtitle];
        switch (what) {
            case 0:
                return row.start;
            case 1:
                return row.end;
            case 2:
                return row.length;
            case 3:
                return film.framesNeededBy(row);
            case 4:
                return film.faultsOf(subtitle);
            case 5:
                return row.lineCount(film.values[WIDTH]);
            case 6:
                return row.bestBlank();
            default:
                return BAD_VALUE;
        }
    }

    public int character(int subtitle, int index) {
        if (!film.has(subtitle)) {
            return NO_SUCH;
        }
        if (index < 0) {
            return BAD_VALUE;
        }
        Subtitle row = film.rows[subtitle];
        return index < row.length ? (int) row.text[index] : NONE;
    }

    public int line(int subtitle, int line) {
        if (!film.has(subtitle)) {
            return NO_SUCH;
        }
        if (line < 0) {
            return BAD_VALUE;
        }
        return film.rows[subtitle].lineLength(line, film.values[WIDTH]);
    }

    public int at(int frame) {
        if (frame < 0 || frame >= LAST_FRAME) {
            return BAD_VALUE;
        }
        for (int i = 0; i < film.count; i++) {
            if (film.rows[i].start <= frame && frame < film.rows[i].end) {
                return i;
            }
        }
        return NONE;
    }

    public int cuts() {
        return film.cutCount;
    }

    public int cutAt(int place) {
        if (place < 0) {
            return BAD_VALUE;
        }
        return place < film.cutCount ? film.cutFrames[place] : NONE;
    }

    public int setting(int setting) {
        if (setting < 0 || setting >= SETTINGS) {
            return NO_SUCH;
        }
        return film.values[setting];
    }

    public int faulty(int fault) {
        if (fault < 0 || fault > FAULT_LINES || Integer.bitCount(fault) > 1) {
            return BAD_VALUE;
        }
        return film.countFaulty(fault == 0 ? ANY_FAULT : fault);
    }

    public int shown() {
        return film.framesOfAll();
    }

    public float meanSpeed() {
        int frames = film.framesOfAll();
        if (frames < 1) {
            return 0.0f;
        }
        return (float) film.lengthOfAll() * 25.0f / (float) frames;
    }

    // ---- what would be; these methods change nothing

    public int unread(int pace) {
        if (pace < 1 || pace > MAX_PACE) {
            return BAD_VALUE;
        }
        return film.countTooFastFor(pace);
    }

    public int leastPace() {
        for (int pace = 1; pace <= MAX_PACE; pace++) {
            if (film.countTooFastFor(pace) == 0) {
                return pace;
            }
        }
        return NONE;
    }

    public int ifSeated(int what) {
        if (what < 0 || what > 2) {
            return BAD_VALUE;
        }
        trial.copyFrom(film);
        int moved = trial.seatAll(trial.values[GAP]);
        if (what == 0) {
            return moved;
        }
        return what == 1 ? trial.countFaulty(ANY_FAULT) : trial.framesOfAll();
    }

    public int bestGap() {
        trial.copyFrom(film);
        int best = LOWEST[GAP];
        int fewest = MAX_SUBTITLES + 1;
        for (int gap = LOWEST[GAP]; gap <= HIGHEST[GAP]; gap++) {
            trial.copyTimesFrom(film);
            trial.seatAll(gap);
            int left = trial.countTooFastFor(trial.values[SPEED]);
            if (left < fewest) {
                fewest = left;
                best = gap;
            }
        }
        return best;
    }

    private void writeReport(int entry, int reason, int place) {
        report[0] = entry;
        report[1] = reason;
        report[2] = place;
    }

    /** One subtitle: its times and its text. */
    private static final class Subtitle {
        int start;
        int end;
        int length;
        final char[] text;

        Subtitle() {
            text = new char[MAX_TEXT];
        }

        void copyFrom(Subtitle other) {
            start = other.start;
            end = other.end;
            takeText(other.text, 0, other.length);
        }

        /** The part must lie in the source and be no longer than a text may be. */
        void takeText(char[] source, int from, int size) {
            System.arraycopy(source, from, text, 0, size);
            length = size;
        }

        int frames() {
            return end - start;
        }

        boolean isTooFastFor(int pace) {
            return FRAMES_A_SECOND * length > pace * frames();
        }

        /** The blank at which the text would be split, or NONE. */
        int bestBlank() {
            int best = NONE;
            int bestKind = 0;
            int bestOff = 0;
            for (int i = 1; i < length; i++) {
                if (text[i] != ' ') {
                    continue;
                }
                int kind = kindOfBlankBehind(text[i - 1]);
                int off = Math.abs(2 * i - (length - 1));
                if (kind > bestKind || kind == bestKind && off < bestOff) {
                    best = i;
                    bestKind = kind;
                    bestOff = off;
                }
            }
            return best;
        }

        private static int kindOfBlankBehind(char character) {
            if (character == '.') {
                return 3;
            }
            return character == ',' ? 2 : 1;
        }

        /** The index behind the last character of the line that begins at the index from. */
        private int lineEnd(int from, int width) {
            int found = length;
            boolean hasWord = false;
            for (int i = from + 1; i <= length; i++) {
                if (i < length && text[i] != ' ') {
                    continue;
                }
                // The first word stands in the line even if it is too wide for it.
                if (hasWord && i - from > width) {
                    break;
                }
                found = i;
                hasWord = true;
            }
            return found;
        }

        int lineCount(int width) {
            int lines = 0;
            for (int from = 0; from < length && lines < MAX_TEXT; from = lineEnd(from, width) + 1) {
                lines++;
            }
            return lines;
        }

        /** The length of a line, or NONE if there is no such line. */
        int lineLength(int line, int width) {
            int from = 0;
            for (int i = 0; i < line && from < length; i++) {
                from = lineEnd(from, width) + 1;
            }
            return from < length ? lineEnd(from, width) - from : NONE;
        }

        boolean fitsInLines(int width) {
            int lines = lineCount(width);
            for (int i = 0; i < lines; i++) {
                if (lineLength(i, width) > width) {
                    return false;
                }
            }
            return lines <= MAX_LINES;
        }
    }

    /** The state that undo restores: subtitles, cuts and settings. */
    private static final class Film {
        /** The rows from count on are spare ones; none is ever null. */
        final Subtitle[] rows;
        int count;
        final int[] cutFrames;
        int cutCount;
        final int[] values;

        Film() {
            rows = new Subtitle[MAX_SUBTITLES];
            for (int i = 0; i < MAX_SUBTITLES; i++) {
                rows[i] = new Subtitle();
            }
            cutFrames = new int[MAX_CUTS];
            values = new int[SETTINGS];
            System.arraycopy(AT_FIRST, 0, values, 0, SETTINGS);
        }

        void copyFrom(Film other) {
            count = other.count;
            for (int i = 0; i < count; i++) {
                rows[i].copyFrom(other.rows[i]);
            }
            cutCount = other.cutCount;
            System.arraycopy(other.cutFrames, 0, cutFrames, 0, MAX_CUTS);
            System.arraycopy(other.values, 0, values, 0, SETTINGS);
        }

        /** For a film that has the same texts already. */
        void copyTimesFrom(Film other) {
            for (int i = 0; i < count; i++) {
                rows[i].start = other.rows[i].start;
                rows[i].end = other.rows[i].end;
            }
        }

        boolean has(int number) {
            return number >= 0 && number < count;
        }

        /** The end of the subtitle before it, 0 for the first one. */
        int endBefore(int number) {
            return number > 0 ? rows[number - 1].end : 0;
        }

        /** The start of the next one, or the last frame for the last one. */
        int startBehind(int number) {
            return number < count - 1 ? rows[number + 1].start : LAST_FRAME;
        }

        int reasonAgainst(int start, int end) {
            if (start >= end) {
                return REASON_TIMES;
            }
            for (int i = 0; i < count; i++) {
                if (start < rows[i].end && rows[i].start < end) {
                    return REASON_SHOWN;
                }
            }
            return count >= MAX_SUBTITLES ? REASON_FULL : REASON_NONE;
        }

        /** Makes room for a subtitle with this start and tells its number; there must be a spare row. */
        int openRowAt(int start) {
            int number = 0;
            for (int i = 0; i < count; i++) {
                if (rows[i].start < start) {
                    number++;
                }
            }
            openRow(number);
            return number;
        }

        /** There must be a spare row: it becomes the one with this number. */
        private void openRow(int number) {
            Subtitle spare = rows[count];
            for (int i = count; i > number; i--) {
                rows[i] = rows[i - 1];
            }
            rows[number] = spare;
            count++;
        }

        void closeRow(int number) {
            Subtitle spare = rows[number];
            for (int i = number; i < count - 1; i++) {
                rows[i] = rows[i + 1];
            }
            count--;
            rows[count] = spare;
        }

        /** There must be a spare row, a blank at this index, and at least two frames besides GAP. */
        void splitRow(int number, int blank) {
            openRow(number + 1);
            Subtitle first = rows[number];
            Subtitle second = rows[number + 1];
            second.takeText(first.text, blank + 1, first.length - blank - 1);
            first.length = blank;
            int frames = first.frames() - values[GAP];
            int share = quotient(frames * first.length, first.length + second.length);
            second.end = first.end;
            first.end = first.start + Math.max(1, Math.min(share, frames - 1));
            second.start = first.end + values[GAP];
        }

        /** There must be a next one, and both texts must fit into one. */
        void joinRows(int number) {
            Subtitle first = rows[number];
            Subtitle second = rows[number + 1];
            first.text[first.length] = ' ';
            System.arraycopy(second.text, 0, first.text, first.length + 1, second.length);
            first.length += 1 + second.length;
            first.end = second.end;
            closeRow(number + 1);
        }

        int framesNeededBy(Subtitle row) {
            int speed = values[SPEED];
            return Math.max(values[LEAST], quotient(FRAMES_A_SECOND * row.length + speed - 1, speed));
        }

        /** Tells how many subtitles have other times then; the gap may differ from the setting. */
        int seatAll(int gap) {
            int moved = 0;
            for (int i = 0; i < count; i++) {
                int earliest = i > 0 ? rows[i - 1].end + gap : 0;
                int limit = i < count - 1 ? rows[i + 1].start - gap : LAST_FRAME;
                if (seatRow(rows[i], earliest, limit)) {
                    moved++;
                }
            }
            return moved;
        }

        private boolean seatRow(Subtitle row, int earliest, int limit) {
            int start = row.start;
            int end = row.end;
            int needed = framesNeededBy(row);
            if (row.frames() < needed) {
                row.end = Math.max(row.end, Math.min(row.start + needed, limit));
            }
            if (row.frames() < needed) {
                row.start = Math.min(row.start, Math.max(row.end - needed, earliest));
            }
            int nearest = nearestCutTo(row.end);
            if (nearest != NONE && Math.abs(nearest - row.end) <= values[SNAP]
                    && nearest <= limit && nearest - row.start >= needed) {
                row.end = nearest;
            }
            return row.start != start || row.end != end;
        }

        /** Of two equally near the earlier one, NONE without cuts. */
        private int nearestCutTo(int frame) {
            int nearest = NONE;
            for (int i = 0; i < cutCount; i++) {
                if (nearest == NONE || Math.abs(cutFrames[i] - frame) < Math.abs(nearest - frame)) {
                    nearest = cutFrames[i];
                }
            }
            return nearest;
        }

        int faultsOf(int number) {
            Subtitle row = rows[number];
            int faults = 0;
            if (row.isTooFastFor(values[SPEED])) {
                faults += FAULT_SPEED;
            }
            if (row.frames() < values[LEAST]) {
                faults += FAULT_SHORT;
            }
            if (row.frames() > values[MOST]) {
                faults += FAULT_LONG;
            }
            if (number < count - 1 && rows[number + 1].start - row.end < values[GAP]) {
                faults += FAULT_GAP;
            }
            if (hasCutNearItsTimes(row)) {
                faults += FAULT_CUT;
            }
            if (!row.fitsInLines(values[WIDTH])) {
                faults += FAULT_LINES;
            }
            return faults;
        }

        private boolean hasCutNearItsTimes(Subtitle row) {
            for (int i = 0; i < cutCount; i++) {
                int behindStart = cutFrames[i] - row.start;
                int beforeEnd = row.end - cutFrames[i];
                if (behindStart > 0 && beforeEnd > 0
                        && (behindStart < values[SNAP] || beforeEnd < values[SNAP])) {
                    return true;
                }
            }
            return false;
        }

        /** Counts the subtitles that have one of the faults of the mask. */
        int countFaulty(int mask) {
            int found = 0;
            for (int i = 0; i < count; i++) {
                if ((faultsOf(i) & mask) != 0) {
                    found++;
                }
            }
            return found;
        }

        int countTooFastFor(int pace) {
            int found = 0;
            for (int i = 0; i < count; i++) {
                if (rows[i].isTooFastFor(pace)) {
                    found++;
                }
            }
            return found;
        }

        int framesOfAll() {
            int frames = 0;
            for (int i = 0; i < count; i++) {
                frames += rows[i].frames();
            }
            return frames;
        }

        int lengthOfAll() {
            int length = 0;
            for (int i = 0; i < count; i++) {
                length += rows[i].length;
            }
            return length;
        }

        /** The index of the cut at this frame among the cuts, or NONE. */
        int findCut(int frame) {
            for (int i = 0; i < cutCount; i++) {
                if (cutFrames[i] == frame) {
                    return i;
                }
            }
            return NONE;
        }

        /** There must be room; the cuts stay in the order of their frames. */
        void addCut(int frame) {
            int place = cutCount;
            while (place > 0 && cutFrames[place - 1] > frame) {
                cutFrames[place] = cutFrames[place - 1];
                place--;
            }
            cutFrames[place] = frame;
            cutCount++;
        }

        void removeCut(int place) {
            cutCount--;
            for (int i = place; i < cutCount; i++) {
                cutFrames[i] = cutFrames[i + 1];
            }
        }

        private static int quotient(int amount, int divisor) {
            return divisor < 1 ? 0 : amount / divisor;
        }
    }

    /** The states that undo can go back to: a ring, in which a new state takes the oldest one's place. */
    private static final class History {
        final Film[] states;
        int count;
        private int latest;

        History() {
            states = new Film[MAX_STATES];
            for (int i = 0; i < MAX_STATES; i++) {
                states[i] = new Film();
            }
        }

        void record(Film film) {
            latest = latest < MAX_STATES - 1 ? latest + 1 : 0;
            states[latest].copyFrom(film);
            count = Math.min(count + 1, MAX_STATES);
        }

        /** There must be a state. */
        void restore(Film film) {
            film.copyFrom(states[latest]);
            latest = latest > 0 ? latest - 1 : MAX_STATES - 1;
            count--;
        }
    }

    /** The script, and a reader that goes through it entry by entry and stops at the first fault. */
    private static final class Script {
        final char[] characters;
        int length;
        private int place;

        // The entry that was read last.
        int entryPlace;
        int start;
        int end;
        int textPlace;
        int textLength;

        Script() {
            characters = new char[MAX_SCRIPT];
        }

        /** The fault of the script, or NONE. */
        int findFault() {
            rewind();
            // The bound only shows the end: each entry takes some characters.
            for (int i = 0; i <= MAX_SCRIPT; i++) {
                if (!readEntry()) {
                    return place;
                }
                if (!take('|')) {
                    break;
                }
            }
            return place < length ? place : NONE;
        }

        void rewind() {
            place = 0;
        }

        /** If there is no entry, the place is that of the fault. */
        boolean readEntry() {
            entryPlace = place;
            start = readNumber();
            if (start == NONE || !take('-')) {
                return false;
            }
            end = readNumber();
            if (end == NONE || !take(':')) {
                return false;
            }
            return readText();
        }

        boolean take(char wanted) {
            if (place >= length || characters[place] != wanted) {
                return false;
            }
            place++;
            return true;
        }

        /** Stops ahead of a digit with which the number would not be one, which is the fault then. */
        private int readNumber() {
            int number = NONE;
            while (place < length && isDigit(characters[place])) {
                int digit = characters[place] - '0';
                int longer = number == NONE ? digit : 10 * number + digit;
                if (number == 0 || longer > LAST_FRAME) {
                    return number;
                }
                number = longer;
                place++;
            }
            return number;
        }

        private boolean readText() {
            textPlace = place;
            while (place < length && mayFollowInText(characters[place])) {
                place++;
            }
            textLength = place - textPlace;
            return textLength > 0 && characters[place - 1] != ' ';
        }

        private boolean mayFollowInText(char character) {
            int index = place - textPlace;
            if (character == ' ') {
                // A blank at the last place could only end the text.
                return index > 0 && index < MAX_TEXT - 1 && characters[place - 1] != ' ';
            }
            return index < MAX_TEXT && isSign(character);
        }

        private static boolean isDigit(char character) {
            return character >= '0' && character <= '9';
        }

        private static boolean isSign(char character) {
            return character >= 'a' && character <= 'z' || character == ',' || character == '.';
        }
    }
}
