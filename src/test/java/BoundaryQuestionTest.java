/** The boundary cases of the questions, promises 17 to 31, a test for each sentence that names one. */
public final class BoundaryQuestionTest {
    public static void main(String[] args) {
        subtitles();
        subtitleArguments();
        subtitleNumbers();
        faultsOfTime();
        faultsOfNeighbours();
        faultsOfLines();
        character();
        lineArguments();
        lineWidths();
        at();
        cuts();
        settings();
        faulty();
        shown();
        meanSpeed();
        unread();
        leastPace();
        ifSeated();
        bestGap();
        Rows.finish(17, 31);
    }

    private static void subtitles() {
        Rows.promise(17, "from none to 20", """
            subtitles = 0
            write 0-1:a
            load = 1
            subtitles = 1
            shift 0 700 = 1
            make film 19
            subtitles = 20
            write 900-901:x
            load = 0
            subtitles = 20
            remove 0 = 19
            subtitles = 19
            """);
    }

    private static void subtitleArguments() {
        Rows.promise(18, "there is no such subtitle", """
            subtitle 0 0 = NO_SUCH
            write 0-5:a|10-15:b
            load = 2
            subtitle -1 0 = NO_SUCH
            subtitle 2 0 = NO_SUCH
            subtitle 20 0 = NO_SUCH
            subtitle min 0 = NO_SUCH
            subtitle max 0 = NO_SUCH
            subtitle 1 0 = 10
            """);
        Rows.promise(18, "what out of range", """
            write 0-5:a
            load = 1
            subtitle 0 -1 = BAD_VALUE
            subtitle 0 7 = BAD_VALUE
            subtitle 0 min = BAD_VALUE
            subtitle 0 max = BAD_VALUE
            subtitle 0 0 = 0
            subtitle 0 6 = NONE
            """);
        Rows.promise(18, "NO_SUCH comes ahead of BAD_VALUE", """
            subtitle 0 7 = NO_SUCH
            write 0-5:a
            load = 1
            subtitle 1 7 = NO_SUCH
            subtitle -1 -1 = NO_SUCH
            subtitle max max = NO_SUCH
            subtitle min min = NO_SUCH
            """);
        Rows.promise(18, "the first one and the last one of 20", """
            make film 20
            subtitle 0 0 = 0
            subtitle 0 1 = 5
            subtitle 19 0 = 190
            subtitle 19 1 = 195
            subtitle 20 0 = NO_SUCH
            """);
    }

    private static void subtitleNumbers() {
        Rows.promise(18, "times at 0 and at 5000", """
            write 0-1:a|4999-5000:b
            load = 2
            subtitle 0 0 = 0
            subtitle 0 1 = 1
            subtitle 1 0 = 4999
            subtitle 1 1 = 5000
            """);
        Rows.promise(18, "the shortest and the longest text", """
            write 0-5:a|10-15:<b*40>
            load = 2
            subtitle 0 2 = 1
            subtitle 1 2 = 40
            """);
        Rows.promise(18, "it needs at least LEAST", """
            write 0-5:<a*17>|10-15:<b*18>
            load = 2
            subtitle 0 3 = 25
            subtitle 1 3 = 27
            set LEAST 26 = 25
            subtitle 0 3 = 26
            subtitle 1 3 = 27
            set LEAST 50 = 26
            subtitle 0 3 = 50
            subtitle 1 3 = 50
            set LEAST 5 = 50
            subtitle 0 3 = 25
            """);
        Rows.promise(18, "what it needs is rounded up", """
            set LEAST 5 = 25
            set SPEED 24 = 17
            write 0-5:<a*24>|10-15:<b*25>
            load = 2
            subtitle 0 3 = 25
            subtitle 1 3 = 27
            set SPEED 25 = 24
            subtitle 0 3 = 24
            subtitle 1 3 = 25
            set SPEED 23 = 25
            subtitle 0 3 = 27
            subtitle 1 3 = 28
            """);
        Rows.promise(18, "the most and the fewest frames that can be needed", """
            set LEAST 5 = 25
            set SPEED 5 = 17
            write 0-5:a|10-15:<b*40>
            load = 2
            subtitle 0 3 = 5
            subtitle 1 3 = 200
            set SPEED 40 = 5
            subtitle 0 3 = 5
            subtitle 1 3 = 25
            """);
        Rows.promise(18, "NONE if its text has no blank", """
            write 0-5:a|10-15:<b*20>|20-25:.|30-35:,.a,.
            load = 4
            subtitle 0 6 = NONE
            subtitle 1 6 = NONE
            subtitle 2 6 = NONE
            subtitle 3 6 = NONE
            """);
        Rows.promise(18, "the first and the last index that a blank can have", """
            write 0-5:a <b*38>
            load = 1
            subtitle 0 6 = 1
            write 10-15:<a*38> b
            load = 1
            subtitle 1 6 = 38
            """);
    }

    private static void faultsOfTime() {
        Rows.promise(18, "fault 1: read just as fast as SPEED, or faster by one frame or one letter", """
            set LEAST 5 = 25
            write 0-25:<a*17>|30-54:<b*17>|60-85:<c*18>
            load = 3
            subtitle 0 4 = 0
            subtitle 1 4 = 1
            subtitle 2 4 = 1
            set SPEED 18 = 17
            subtitle 1 4 = 0
            subtitle 2 4 = 0
            """);
        Rows.promise(18, "fault 1: the slowest and the fastest SPEED", """
            set LEAST 5 = 25
            set SPEED 40 = 17
            write 0-5:<a*8>|10-15:<b*9>|20-25:c
            load = 3
            subtitle 0 4 = 0
            subtitle 1 4 = 1
            subtitle 2 4 = 0
            set SPEED 5 = 40
            subtitle 0 4 = 1
            subtitle 2 4 = 0
            """);
        Rows.promise(18, "fault 2: LEAST frames, or one fewer", """
            write 0-25:a|30-54:b
            load = 2
            subtitle 0 4 = 0
            subtitle 1 4 = 2
            set LEAST 24 = 25
            subtitle 1 4 = 0
            set LEAST 26 = 24
            subtitle 0 4 = 2
            """);
        Rows.promise(18, "fault 2: the least and the greatest LEAST", """
            set LEAST 5 = 25
            write 0-5:a|10-14:b|20-70:c|80-129:d
            load = 4
            subtitle 0 4 = 0
            subtitle 1 4 = 2
            subtitle 2 4 = 0
            subtitle 3 4 = 0
            set LEAST 50 = 5
            subtitle 0 4 = 2
            subtitle 2 4 = 0
            subtitle 3 4 = 2
            set SPEED 40 = 17
            subtitle 1 4 = 2
            """);
        Rows.promise(18, "fault 4: MOST frames, or one more", """
            write 0-150:a|200-351:b
            load = 2
            subtitle 0 4 = 0
            subtitle 1 4 = 4
            set MOST 151 = 150
            subtitle 1 4 = 0
            set MOST 149 = 151
            subtitle 0 4 = 4
            """);
        Rows.promise(18, "fault 4: the least and the greatest MOST", """
            set MOST 50 = 150
            write 0-50:a|60-111:b|200-450:c|500-751:d|1000-5000:e
            load = 5
            subtitle 0 4 = 0
            subtitle 1 4 = 4
            set MOST 250 = 50
            subtitle 1 4 = 0
            subtitle 2 4 = 0
            subtitle 3 4 = 4
            subtitle 4 4 = 4
            """);
        Rows.promise(18, "as many faults at once as there can be", """
            set SNAP 12 = 6
            set SPEED 5 = 17
            set MOST 50 = 150
            write 0-2:<a*40>|3-60:<b*29>
            load = 2
            write 61-100:c
            load = 1
            cut 1 = 1
            cut 4 = 2
            subtitle 0 4 = 59
            subtitle 1 4 = 61
            subtitle 2 4 = 0
            """);
    }

    private static void faultsOfNeighbours() {
        Rows.promise(18, "fault 8: GAP frames, or one fewer", """
            write 0-30:a|32-60:b|61-90:c|90-120:d
            load = 4
            subtitle 0 4 = 0
            subtitle 1 4 = 8
            subtitle 2 4 = 8
            set GAP 1 = 2
            subtitle 1 4 = 0
            subtitle 2 4 = 8
            set GAP 3 = 1
            subtitle 0 4 = 8
            """);
        Rows.promise(18, "fault 8: the last one has no next one", """
            write 4900-5000:b
            load = 1
            set GAP 20 = 2
            subtitle 0 4 = 0
            write 4870-4895:a
            load = 1
            subtitle 0 4 = 8
            subtitle 1 4 = 0
            """);
        Rows.promise(18, "fault 8: the least and the greatest GAP", """
            set GAP 0 = 2
            write 0-30:a|30-60:b|80-110:c|129-160:d
            load = 4
            subtitle 0 4 = 0
            set GAP 20 = 0
            subtitle 0 4 = 8
            subtitle 1 4 = 0
            subtitle 2 4 = 8
            subtitle 3 4 = 0
            """);
        Rows.promise(18, "fault 16: a cut at its start or its end, or one frame inside", """
            write 100-150:a|200-250:b|300-350:c|400-450:d
            load = 4
            cut 100 = 1
            cut 150 = 2
            cut 201 = 3
            cut 349 = 4
            cut 399 = 5
            cut 451 = 6
            subtitle 0 4 = 0
            subtitle 1 4 = 16
            subtitle 2 4 = 16
            subtitle 3 4 = 0
            """);
        Rows.promise(18, "fault 16: SNAP frames away, or one fewer", """
            write 100-150:a|200-250:b|300-350:c|400-450:d
            load = 4
            cut 106 = 1
            cut 144 = 2
            cut 205 = 3
            cut 345 = 4
            cut 425 = 5
            subtitle 0 4 = 0
            subtitle 1 4 = 16
            subtitle 2 4 = 16
            subtitle 3 4 = 0
            set SNAP 5 = 6
            subtitle 1 4 = 0
            subtitle 2 4 = 0
            set SNAP 7 = 5
            subtitle 0 4 = 16
            """);
        Rows.promise(18, "fault 16: SNAP is 0, 1, 2 and 12", """
            set SNAP 0 = 6
            write 100-150:a|200-250:b|300-350:c
            load = 3
            cut 101 = 1
            cut 239 = 2
            cut 312 = 3
            subtitle 0 4 = 0
            set SNAP 1 = 0
            subtitle 0 4 = 0
            set SNAP 2 = 1
            subtitle 0 4 = 16
            subtitle 1 4 = 0
            set SNAP 12 = 2
            subtitle 1 4 = 16
            subtitle 2 4 = 0
            """);
        Rows.promise(18, "fault 16: the earliest and the latest cut", """
            write 0-50:a|4950-5000:b
            load = 2
            cut 1 = 1
            cut 4999 = 2
            subtitle 0 4 = 16
            subtitle 1 4 = 16
            """);
        Rows.promise(18, "fault 16: one of 12 cuts", """
            write 95-1205:a
            load = 1
            make cuts 12
            set MOST 250 = 150
            subtitle 0 4 = 20
            uncut 100 = 11
            subtitle 0 4 = 20
            uncut 1200 = 10
            subtitle 0 4 = 4
            """);
    }

    private static void faultsOfLines() {
        Rows.promise(18, "fault 32: 2 lines, or 3", """
            set WIDTH 10 = 20
            write 0-100:aaaaa bbbbb|110-210:aaaaa bbbbb cccc|220-320:aaaaa bbbbb ccccc
            load = 3
            subtitle 0 5 = 2
            subtitle 0 4 = 0
            subtitle 1 5 = 2
            subtitle 1 4 = 0
            subtitle 2 5 = 3
            subtitle 2 4 = 32
            """);
        Rows.promise(18, "fault 32: a line of WIDTH characters, or of one more", """
            set WIDTH 10 = 20
            write 0-100:<a*10>|110-210:<b*11>|220-320:<a*11> c
            load = 3
            subtitle 0 4 = 0
            subtitle 1 4 = 32
            subtitle 2 4 = 32
            write 330-430:a <b*10>|440-540:a <b*11>
            load = 2
            subtitle 3 5 = 2
            subtitle 3 4 = 0
            subtitle 4 5 = 2
            subtitle 4 4 = 32
            """);
        Rows.promise(18, "fault 32: the greatest WIDTH", """
            set WIDTH 40 = 20
            write 0-100:<a*40>
            load = 1
            subtitle 0 4 = 0
            subtitle 0 5 = 1
            set WIDTH 39 = 40
            subtitle 0 4 = 32
            subtitle 0 5 = 1
            """);
    }

    private static void character() {
        Rows.promise(19, "there is no such subtitle", """
            character 0 0 = NO_SUCH
            write 0-5:a
            load = 1
            character -1 0 = NO_SUCH
            character 1 0 = NO_SUCH
            character 20 0 = NO_SUCH
            character min 0 = NO_SUCH
            character max 0 = NO_SUCH
            """);
        Rows.promise(19, "an index below 0", """
            write 0-5:ab
            load = 1
            character 0 -1 = BAD_VALUE
            character 0 min = BAD_VALUE
            character 0 0 = 97
            """);
        Rows.promise(19, "the text is not so long", """
            write 0-5:a|10-15:<b*39>c
            load = 2
            character 0 0 = 97
            character 0 1 = NONE
            character 0 39 = NONE
            character 0 40 = NONE
            character 0 max = NONE
            character 1 0 = 98
            character 1 39 = 99
            character 1 40 = NONE
            character 1 41 = NONE
            character 1 max = NONE
            """);
        Rows.promise(19, "NO_SUCH comes ahead of BAD_VALUE and of NONE", """
            character 0 -1 = NO_SUCH
            write 0-5:a
            load = 1
            character 1 -1 = NO_SUCH
            character -1 min = NO_SUCH
            character 1 max = NO_SUCH
            """);
        Rows.promise(19, "behind a split and a removal there is no old text", """
            write 0-50:ab cde
            load = 1
            split 0 = 2
            character 0 1 = 98
            character 0 2 = NONE
            character 1 2 = 101
            character 1 3 = NONE
            remove 1 = 1
            character 1 0 = NO_SUCH
            """);
        Rows.promise(19, "the first one and the last one of 20", """
            make film 20
            character 0 0 = 97
            character 19 0 = 116
            character 20 0 = NO_SUCH
            """);
        Rows.promise(19, "each kind of character", """
            write 0-5:az, .
            load = 1
            character 0 0 = 97
            character 0 1 = 122
            character 0 2 = 44
            character 0 3 = 32
            character 0 4 = 46
            """);
    }

    private static void lineArguments() {
        Rows.promise(20, "there is no such subtitle", """
            line 0 0 = NO_SUCH
            write 0-5:a
            load = 1
            line -1 0 = NO_SUCH
            line 1 0 = NO_SUCH
            line 20 0 = NO_SUCH
            line min 0 = NO_SUCH
            line max 0 = NO_SUCH
            """);
        Rows.promise(20, "a line below 0", """
            write 0-5:a
            load = 1
            line 0 -1 = BAD_VALUE
            line 0 min = BAD_VALUE
            line 0 0 = 1
            """);
        Rows.promise(20, "it has not so many lines", """
            write 0-5:a|10-15:<b*20> c
            load = 2
            line 0 0 = 1
            line 0 1 = NONE
            line 0 max = NONE
            line 1 0 = 20
            line 1 1 = 1
            line 1 2 = NONE
            line 1 max = NONE
            """);
        Rows.promise(20, "NO_SUCH comes ahead of BAD_VALUE and of NONE", """
            line 0 -1 = NO_SUCH
            write 0-5:a
            load = 1
            line 1 -1 = NO_SUCH
            line -1 min = NO_SUCH
            line 1 max = NO_SUCH
            """);
    }

    private static void lineWidths() {
        Rows.promise(20, "as many words as fit, or one character too many", """
            set WIDTH 10 = 20
            write 0-5:aaaaa bbbb|10-15:aaaaa bbbbb|20-25:aaa bbb cc d|30-35:aa bb ccc dd
            load = 4
            subtitle 0 5 = 1
            line 0 0 = 10
            subtitle 1 5 = 2
            line 1 0 = 5
            line 1 1 = 5
            subtitle 2 5 = 2
            line 2 0 = 10
            line 2 1 = 1
            subtitle 3 5 = 2
            line 3 0 = 9
            line 3 1 = 2
            """);
        Rows.promise(20, "at least one word, even if it is too wide", """
            set WIDTH 10 = 20
            write 0-5:<a*11> b <c*12> d
            load = 1
            subtitle 0 5 = 4
            line 0 0 = 11
            line 0 1 = 1
            line 0 2 = 12
            line 0 3 = 1
            line 0 4 = NONE
            """);
        Rows.promise(20, "the widest word there can be", """
            set WIDTH 10 = 20
            write 0-5:<a*40>
            load = 1
            subtitle 0 5 = 1
            line 0 0 = 40
            line 0 1 = NONE
            """);
        Rows.promise(20, "the greatest WIDTH takes each text whole", """
            set WIDTH 40 = 20
            write 0-5:<a*20> <b*19>
            load = 1
            subtitle 0 5 = 1
            line 0 0 = 40
            line 0 1 = NONE
            set WIDTH 39 = 40
            subtitle 0 5 = 2
            line 0 0 = 20
            line 0 1 = 19
            line 0 2 = NONE
            """);
        Rows.promise(20, "as many lines as there can be", """
            set WIDTH 10 = 20
            write 0-5:a bbbbbbbbb c ddddddddd e fffffffff g
            load = 1
            subtitle 0 5 = 7
            line 0 0 = 1
            line 0 1 = 9
            line 0 5 = 9
            line 0 6 = 1
            line 0 7 = NONE
            set WIDTH 11 = 10
            subtitle 0 5 = 4
            line 0 3 = 1
            line 0 4 = NONE
            """);
        Rows.promise(20, "the first one and the last one of 20", """
            make film 20
            line 0 0 = 1
            line 19 0 = 1
            line 19 1 = NONE
            line 20 0 = NO_SUCH
            """);
        Rows.promise(20, "as many words as there can be", """
            set WIDTH 10 = 20
            write 0-5:a b c d e f g h i j k l m n o p q r s tt
            load = 1
            subtitle 0 2 = 40
            subtitle 0 5 = 4
            line 0 0 = 9
            line 0 2 = 9
            line 0 3 = 10
            line 0 4 = NONE
            set WIDTH 11 = 10
            subtitle 0 5 = 4
            line 0 2 = 11
            line 0 3 = 4
            """);
    }

    private static void at() {
        Rows.promise(21, "frames out of range", """
            at -1 = BAD_VALUE
            at 5000 = BAD_VALUE
            at 5001 = BAD_VALUE
            at min = BAD_VALUE
            at max = BAD_VALUE
            write 0-5000:a
            load = 1
            at -1 = BAD_VALUE
            at 5000 = BAD_VALUE
            """);
        Rows.promise(21, "the first frame and the last one", """
            at 0 = NONE
            at 4999 = NONE
            write 0-1:a|4999-5000:b
            load = 2
            at 0 = 0
            at 1 = NONE
            at 4998 = NONE
            at 4999 = 1
            """);
        Rows.promise(21, "from its start up to the one before its end", """
            write 10-20:a
            load = 1
            at 9 = NONE
            at 10 = 0
            at 19 = 0
            at 20 = NONE
            """);
        Rows.promise(21, "subtitles that touch", """
            write 10-20:a|20-21:b|21-30:c
            load = 3
            at 19 = 0
            at 20 = 1
            at 21 = 2
            at 30 = NONE
            """);
        Rows.promise(21, "the first one and the last one of 20", """
            make film 20
            at 0 = 0
            at 190 = 19
            at 194 = 19
            at 195 = NONE
            remove 0 = 19
            at 0 = NONE
            at 194 = 18
            """);
    }

    private static void cuts() {
        Rows.promise(22, "from none to 12", """
            cuts = 0
            cut 4999 = 1
            cuts = 1
            make cuts 11
            cuts = 12
            cut 1 = TOO_MANY
            cuts = 12
            uncut 4999 = 11
            cuts = 11
            """);
        Rows.promise(23, "a place below 0", """
            cutAt -1 = BAD_VALUE
            cutAt min = BAD_VALUE
            cut 5 = 1
            cutAt -1 = BAD_VALUE
            cutAt min = BAD_VALUE
            """);
        Rows.promise(23, "there are not so many cuts", """
            cutAt 0 = NONE
            cutAt max = NONE
            cut 5 = 1
            cutAt 0 = 5
            cutAt 1 = NONE
            cutAt max = NONE
            uncut 5 = 0
            cutAt 0 = NONE
            """);
        Rows.promise(23, "the first one and the last one of 12", """
            make cuts 12
            cutAt 0 = 100
            cutAt 11 = 1200
            cutAt 12 = NONE
            cutAt 13 = NONE
            cutAt max = NONE
            """);
        Rows.promise(23, "the earliest and the latest cut there can be", """
            cut 4999 = 1
            cut 1 = 2
            cutAt 0 = 1
            cutAt 1 = 4999
            """);
    }

    private static void settings() {
        Rows.promise(24, "there is no such setting", """
            setting -1 = NO_SUCH
            setting 6 = NO_SUCH
            setting min = NO_SUCH
            setting max = NO_SUCH
            """);
        Rows.promise(24, "the first one and the last one, with the least and the greatest value", """
            setting 0 = 17
            setting 5 = 6
            set SPEED 5 = 17
            set SNAP 12 = 6
            setting 0 = 5
            setting 5 = 12
            set SPEED 40 = 5
            set SNAP 0 = 12
            setting 0 = 40
            setting 5 = 0
            """);
        Rows.promise(24, "a refused set leaves the value", """
            set GAP 21 = BAD_VALUE
            setting GAP = 2
            set GAP -1 = BAD_VALUE
            setting GAP = 2
            """);
    }

    private static void faulty() {
        Rows.promise(25, "none of these", """
            faulty -1 = BAD_VALUE
            faulty 3 = BAD_VALUE
            faulty 5 = BAD_VALUE
            faulty 6 = BAD_VALUE
            faulty 7 = BAD_VALUE
            faulty 12 = BAD_VALUE
            faulty 31 = BAD_VALUE
            faulty 33 = BAD_VALUE
            faulty 63 = BAD_VALUE
            faulty 64 = BAD_VALUE
            faulty min = BAD_VALUE
            faulty max = BAD_VALUE
            """);
        Rows.promise(25, "each bit that an int has besides", """
            faulty 128 = BAD_VALUE
            faulty 65536 = BAD_VALUE
            faulty 1073741824 = BAD_VALUE
            faulty -2147483647 = BAD_VALUE
            faulty -32 = BAD_VALUE
            """);
        Rows.promise(25, "there is no subtitle", """
            faulty 0 = 0
            faulty 1 = 0
            faulty 2 = 0
            faulty 4 = 0
            faulty 8 = 0
            faulty 16 = 0
            faulty 32 = 0
            """);
        Rows.promise(25, "all of 20, and all but the last one", """
            make film 20
            faulty 0 = 20
            faulty 2 = 20
            faulty 1 = 0
            set GAP 6 = 2
            faulty 8 = 19
            set LEAST 5 = 25
            faulty 0 = 19
            faulty 2 = 0
            set GAP 5 = 6
            faulty 8 = 0
            faulty 0 = 0
            """);
        Rows.promise(25, "a subtitle with many faults counts once for any of them", """
            set SNAP 12 = 6
            write 0-2:<a*40>|3-60:b
            load = 2
            cut 1 = 1
            subtitle 0 4 = 59
            faulty 0 = 1
            faulty 1 = 1
            faulty 2 = 1
            faulty 4 = 0
            faulty 8 = 1
            faulty 16 = 1
            faulty 32 = 1
            """);
        Rows.promise(25, "each fault alone counts for any of them", """
            write 0-25:<a*18>|30-54:b|60-211:c|220-250:d
            load = 4
            write 251-290:e|300-350:f|400-450:<g*21>
            load = 3
            cut 301 = 1
            subtitle 0 4 = 1
            subtitle 1 4 = 2
            subtitle 2 4 = 4
            subtitle 3 4 = 8
            subtitle 4 4 = 0
            subtitle 5 4 = 16
            subtitle 6 4 = 32
            faulty 0 = 6
            faulty 1 = 1
            faulty 2 = 1
            faulty 4 = 1
            faulty 8 = 1
            faulty 16 = 1
            faulty 32 = 1
            """);
        Rows.promise(25, "the fault 1 alone", """
            write 0-25:<a*18>
            load = 1
            faulty 0 = 1
            faulty 1 = 1
            faulty 2 = 0
            faulty 32 = 0
            """);
    }

    private static void shown() {
        Rows.promise(26, "no frame, one frame and all frames", """
            shown = 0
            write 0-1:a
            load = 1
            shown = 1
            setEnd 0 5000 = 1
            shown = 5000
            remove 0 = 0
            shown = 0
            """);
        Rows.promise(26, "subtitles that touch, from 0 to 5000", """
            write 0-1:a|1-4999:b|4999-5000:c
            load = 3
            shown = 5000
            remove 1 = 2
            shown = 2
            """);
        Rows.promise(26, "all of 20", """
            make film 20
            shown = 100
            setEnd 19 5000 = 195
            shown = 4905
            """);
    }

    private static void meanSpeed() {
        Rows.promise(27, "without subtitles", """
            meanSpeed = 0.0
            write 0-1:a
            load = 1
            meanSpeed = 25.0
            remove 0 = 0
            meanSpeed = 0.0
            """);
        Rows.promise(27, "the fastest and the slowest that can be", """
            write 4999-5000:<a*40>
            load = 1
            meanSpeed = 1000.0
            remove 0 = 0
            write 0-5000:a
            load = 1
            meanSpeed = 0.005
            """);
        Rows.promise(27, "a quotient that a float must round", """
            write 0-3:a
            load = 1
            meanSpeed = 8.333333
            setEnd 0 7 = 3
            meanSpeed = 3.5714285
            setEnd 0 3000 = 7
            meanSpeed = 0.008333334
            """);
        Rows.promise(27, "texts and times of different lengths count together", """
            write 0-1:a|10-13:<b*30>|20-44:c
            load = 3
            meanSpeed = 28.571428
            remove 1 = 2
            meanSpeed = 2.0
            """);
        Rows.promise(27, "all of 20", """
            make film 20
            meanSpeed = 5.0
            """);
    }

    private static void unread() {
        Rows.promise(28, "the least and the greatest pace", """
            write 0-25:a|30-54:b|60-65:<c*12>|70-74:<d*12>
            load = 4
            unread 1 = 3
            unread 60 = 1
            """);
        Rows.promise(28, "a pace out of range", """
            unread 0 = BAD_VALUE
            unread 61 = BAD_VALUE
            unread -1 = BAD_VALUE
            unread min = BAD_VALUE
            unread max = BAD_VALUE
            write 0-5:a
            load = 1
            unread 0 = BAD_VALUE
            unread 61 = BAD_VALUE
            """);
        Rows.promise(28, "there is no subtitle", """
            unread 1 = 0
            unread 60 = 0
            """);
        Rows.promise(28, "read to the end just in time", """
            write 0-25:<a*10>
            load = 1
            unread 10 = 0
            unread 9 = 1
            setEnd 0 24 = 25
            unread 10 = 1
            unread 11 = 0
            """);
        Rows.promise(28, "all of 20 or none, whatever SPEED is", """
            make film 20
            set SPEED 40 = 17
            unread 4 = 20
            unread 5 = 0
            set SPEED 5 = 40
            unread 4 = 20
            unread 5 = 0
            """);
    }

    private static void leastPace() {
        Rows.promise(29, "there is no subtitle", "leastPace = 1");
        Rows.promise(29, "the least pace, or one more", """
            write 0-25:a
            load = 1
            leastPace = 1
            setEnd 0 24 = 25
            leastPace = 2
            setEnd 0 5000 = 24
            leastPace = 1
            """);
        Rows.promise(29, "the greatest pace, or none", """
            write 0-5:<a*12>
            load = 1
            leastPace = 60
            setEnd 0 4 = 5
            leastPace = NONE
            setEnd 0 1 = 4
            leastPace = NONE
            """);
        Rows.promise(29, "one of 20 sets the pace", """
            make film 19
            leastPace = 5
            write 4999-5000:x
            load = 1
            leastPace = 25
            remove 19 = 19
            write 4999-5000:xyz
            load = 1
            leastPace = NONE
            """);
    }

    private static void ifSeated() {
        Rows.promise(30, "what out of range", """
            ifSeated -1 = BAD_VALUE
            ifSeated 3 = BAD_VALUE
            ifSeated min = BAD_VALUE
            ifSeated max = BAD_VALUE
            write 0-5:a
            load = 1
            ifSeated -1 = BAD_VALUE
            ifSeated 3 = BAD_VALUE
            """);
        Rows.promise(30, "there is no subtitle", """
            ifSeated 0 = 0
            ifSeated 1 = 0
            ifSeated 2 = 0
            undo = NONE
            """);
        Rows.promise(30, "all of 20", """
            make film 20
            ifSeated 0 = 20
            ifSeated 1 = 19
            ifSeated 2 = 177
            shown = 100
            seat = 20
            shown = 177
            faulty 0 = 19
            ifSeated 0 = 0
            """);
        Rows.promise(30, "what seat would do at the ends of the time", """
            write 1-5:a|4998-5000:b
            load = 2
            ifSeated 0 = 2
            ifSeated 1 = 0
            ifSeated 2 = 50
            subtitle 0 1 = 5
            subtitle 1 0 = 4998
            seat = 2
            subtitle 0 1 = 26
            subtitle 1 0 = 4975
            shown = 50
            """);
        Rows.promise(30, "a fault that seating brings, by a cut behind MOST frames", """
            write 0-150:a
            load = 1
            cut 151 = 1
            faulty 0 = 0
            ifSeated 0 = 1
            ifSeated 1 = 1
            ifSeated 2 = 151
            seat = 1
            subtitle 0 4 = 4
            """);
        Rows.promise(30, "a fault that seating takes away, by a cut", """
            write 0-50:a|100-150:b
            load = 2
            cut 155 = 1
            cut 146 = 2
            faulty 0 = 1
            ifSeated 0 = 1
            ifSeated 1 = 0
            ifSeated 2 = 96
            set SNAP 3 = 6
            faulty 0 = 0
            ifSeated 0 = 0
            ifSeated 1 = 0
            ifSeated 2 = 100
            """);
    }

    private static void bestGap() {
        Rows.promise(31, "there is no subtitle, or one alone", """
            bestGap = 0
            write 0-1:a
            load = 1
            bestGap = 0
            remove 0 = 0
            write 0-5000:a
            load = 1
            bestGap = 0
            """);
        Rows.promise(31, "the least of equal ones, whatever GAP is", """
            write 0-100:a|200-300:b
            load = 2
            set GAP 20 = 2
            bestGap = 0
            setting GAP = 20
            set GAP 0 = 20
            bestGap = 0
            """);
        Rows.promise(31, "one frame of gap is too many", """
            set LEAST 5 = 25
            set SPEED 25 = 17
            set GAP 1 = 2
            write 0-10:a|15-20:<b*10>|20-40:c
            load = 3
            bestGap = 0
            ifSeated 0 = 1
            seat = 1
            subtitle 1 0 = 11
            faulty 1 = 1
            """);
        Rows.promise(31, "a gap of 1 keeps the one before from its cut", """
            set LEAST 5 = 25
            set SPEED 25 = 17
            write 0-25:a|30-40:<b*14>|41-90:c
            load = 3
            cut 30 = 1
            bestGap = 1
            setting GAP = 2
            undo = 3
            bestGap = 0
            """);
        Rows.promise(31, "the largest gap that can be best", """
            set LEAST 5 = 25
            set SPEED 25 = 17
            set SNAP 12 = 6
            write 0-25:a|47-57:<b*21>|57-90:c
            load = 3
            cut 37 = 1
            bestGap = 11
            set GAP 20 = 2
            bestGap = 11
            set SNAP 11 = 12
            bestGap = 0
            """);
        Rows.promise(31, "the fewest, even if some are left", """
            set LEAST 5 = 25
            set SPEED 25 = 17
            write 0-25:a|30-40:<b*14>|41-90:c|4999-5000:d
            load = 4
            write 90-91:<e*40>|91-100:f
            load = 2
            cut 30 = 1
            bestGap = 1
            faulty 1 = 2
            set GAP 1 = 2
            seat = 2
            faulty 1 = 1
            """);
        Rows.promise(31, "the last one of 12 cuts", """
            set LEAST 5 = 25
            set SPEED 25 = 17
            write 1170-1195:a|1200-1210:<b*14>|1211-1290:c
            load = 3
            bestGap = 0
            make cuts 12
            bestGap = 1
            """);
        Rows.promise(31, "20 subtitles", """
            make film 20
            bestGap = 0
            subtitle 19 1 = 195
            setting GAP = 2
            """);
    }
}
