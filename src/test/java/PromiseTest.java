/** Ordinary runs of calls on new objects, promise by promise, with the answers that are due; Rows tells the form. */
public final class PromiseTest {
    public static void main(String[] args) {
        newObject();
        scripts();
        loads();
        histories();
        changes();
        seats();
        cutsAndSettings();
        questions();
        faults();
        wouldBes();
        Rows.finish(1, 31);
    }

    private static void newObject() {
        Rows.promise(1, "a new object", """
            subtitles = 0
            cuts = 0
            clearScript = 0
            fault = 0
            undo = NONE
            setting SPEED = 17
            setting GAP = 2
            setting LEAST = 25
            setting MOST = 150
            setting WIDTH = 20
            setting SNAP = 6
            why 0 = NONE
            why 1 = NONE
            why 2 = NONE
            shown = 0
            meanSpeed = 0.0
            leastPace = 1
            bestGap = 0
            """);
    }

    private static void scripts() {
        Rows.promise(2, "append counts", """
            append 32 = 1
            append 126 = 2
            append 31 = BAD_VALUE
            append 127 = BAD_VALUE
            append min = BAD_VALUE
            append max = BAD_VALUE
            append 97 = 3
            clearScript = 3
            """);
        Rows.promise(2, "append up to 80", """
            write aaaaaaaaaabbbbbbbbbbccccccccccddddddddddeeeeeeeeeeffffffffffgggggggggghhhhhhhhh
            append 97 = 80
            append 97 = TOO_MANY
            append 31 = BAD_VALUE
            clearScript = 80
            append 97 = 1
            """);
        Rows.promise(3, "clearScript", """
            write 1-2:a
            clearScript = 5
            clearScript = 0
            fault = 0
            undo = NONE
            """);
        numberFaults();
        textFaults();
    }

    private static void numberFaults() {
        Rows.promise(4, "numbers", """
            fault = 0
            write 0
            fault = 1
            write 00-1:a
            fault = 1
            write 0-0:a
            fault = NONE
            write 5000-5000:a
            fault = NONE
            write 5001-5:a
            fault = 3
            write 4999-5:a
            fault = NONE
            write 6000-5:a
            fault = 3
            write 999-12345:a
            fault = 8
            write 501-5010:a
            fault = 7
            write 50000-1:a
            fault = 4
            write -1:a
            fault = 0
            write 1:2
            fault = 1
            write 1-
            fault = 2
            write 1-:
            fault = 2
            write 1-05:a
            fault = 3
            write 12-2-3
            fault = 4
            write a
            fault = 0
            write _
            fault = 0
            write 1_-2:a
            fault = 1
            """);
        Rows.promise(4, "entries", """
            write 1-2:a|
            fault = 6
            write 1-2:a|3-4:b
            fault = NONE
            write 1-2:a||
            fault = 6
            write |1-2:a
            fault = 0
            write 1-2|a
            fault = 3
            write 1-2:|
            fault = 4
            write 1-2:a|3-4:b|5-6:c.|7-8
            fault = 22
            write 9-9:a|5-1:b
            fault = NONE
            """);
    }

    private static void textFaults() {
        Rows.promise(4, "texts", """
            write 1-2:
            fault = 4
            write 1-2:A
            fault = 4
            write 1-2:a`
            fault = 5
            write 1-2:a{
            fault = 5
            write 1-2:az,.
            fault = NONE
            write 1-2:a-
            fault = 5
            write 1-2:a1
            fault = 5
            write 1-2:_a
            fault = 4
            write 1-2:a_
            fault = 6
            write 1-2:a_|3-4:b
            fault = 6
            write 1-2:a__b
            fault = 6
            write 1-2:a_b_c
            fault = NONE
            """);
        Rows.promise(4, "lengths of texts", """
            write 1-2:aaaaaaaaaabbbbbbbbbbccccccccccdddddddddd
            fault = NONE
            write 1-2:aaaaaaaaaabbbbbbbbbbccccccccccdddddddddde
            fault = 44
            write 1-2:aaaaaaaaaabbbbbbbbbbccccccccccdddddddddd_
            fault = 44
            write 1-2:aaaaaaaaaabbbbbbbbbbccccccccccddddddddd_
            fault = 43
            write 1-2:aaaaaaaaaabbbbbbbbbbccccccccccdddddddd_
            fault = 43
            write 1-2:aaaaaaaaaabbbbbbbbbbccccccccccdddddddd_e
            fault = NONE
            """);
        Rows.promise(4, "a script of 80 characters", """
            write 0-1:a|0-1:a|0-1:a|0-1:a|0-1:a|0-1:a|0-1:a|0-1:a|0-1:a|0-1:a|0-1:a|0-1:a|0-1:a|0-
            fault = 80
            load = BAD_TEXT
            """);
    }

    private static void loads() {
        Rows.promise(5, "load keeps the order of the starts", """
            write 50-60:b c|10-20:a|30-40:,.
            load = 3
            subtitles = 3
            subtitle 0 0 = 10
            subtitle 0 1 = 20
            subtitle 0 2 = 1
            subtitle 1 0 = 30
            character 1 0 = 44
            subtitle 2 1 = 60
            character 2 1 = 32
            character 2 2 = 99
            fault = NONE
            write 0-10:x|20-30:y
            load = 2
            character 0 0 = 120
            character 2 0 = 121
            subtitle 4 2 = 3
            """);
        Rows.promise(5, "load with a faulty script", """
            load = BAD_TEXT
            write 1-2:a|
            load = BAD_TEXT
            subtitles = 0
            undo = NONE
            why 0 = NONE
            """);
        Rows.promise(5, "load stops at an entry that meets another one", """
            write 10-20:a|20-30:b|5-10:c|29-31:d|40-50:e
            load = 3
            subtitles = 3
            why 0 = 3
            why 1 = 2
            why 2 = 23
            write 0-5000:x
            load = 0
            why 1 = 2
            write 19-20:x
            load = 0
            why 1 = 2
            write 11-12:x
            load = 0
            write 10-20:x
            load = 0
            write 4999-5000:x
            load = 1
            """);
        Rows.promise(5, "load up to 20", """
            write 0-1:a|2-3:b|4-5:c|6-7:d|8-9:e|10-11:f|12-13:g|14-15:h|16-17:i|18-19:j
            load = 10
            write 20-21:a|22-23:b|24-25:c|26-27:d|28-29:e|30-31:f|32-33:g|34-35:h|36-37:i
            load = 9
            write 38-39:s|40-41:t
            load = 1
            why 0 = 1
            why 1 = 3
            why 2 = 8
            subtitles = 20
            write 40-40:t
            load = 0
            why 1 = 1
            write 38-40:t
            load = 0
            why 1 = 2
            write 1-2:t
            load = 0
            why 1 = 3
            subtitle 19 1 = 39
            subtitle 20 1 = NO_SUCH
            """);
        Rows.promise(6, "why", """
            write 1-2:a|7-7:b
            load = 1
            why 0 = 1
            why 1 = 1
            why 2 = 6
            why 3 = BAD_VALUE
            why -1 = BAD_VALUE
            why min = BAD_VALUE
            why max = BAD_VALUE
            clearScript = 11
            why 2 = 6
            load = BAD_TEXT
            why 0 = 1
            undo = 0
            why 1 = 1
            write 1-2:a|7-8:b
            load = 2
            why 0 = NONE
            why 1 = NONE
            why 2 = NONE
            write 9-3:c
            load = 0
            why 0 = 0
            why 1 = 1
            why 2 = 0
            """);
    }

    private static void histories() {
        Rows.promise(7, "undo keeps script and report", """
            write 0-50:ab cd|9-9:x
            load = 1
            cut 7 = 1
            set SPEED 20 = 17
            undo = 2
            setting SPEED = 17
            cuts = 1
            undo = 1
            cuts = 0
            subtitles = 1
            undo = 0
            subtitles = 0
            why 1 = 1
            clearScript = 16
            undo = NONE
            """);
        Rows.promise(7, "four states at most", """
            set SPEED 5 = 17
            set SPEED 6 = 5
            set SPEED 7 = 6
            set SPEED 8 = 7
            set SPEED 9 = 8
            undo = 3
            setting SPEED = 8
            set SPEED 10 = 8
            undo = 3
            undo = 2
            setting SPEED = 7
            undo = 1
            undo = 0
            setting SPEED = 5
            undo = NONE
            setting SPEED = 5
            """);
        Rows.promise(7, "every action is recorded even without a change", """
            write 0-50:ab cd|60-90:x
            load = 2
            load = 0
            undo = 1
            undo = 0
            undo = NONE
            """);
        Rows.promise(7, "which calls are recorded", """
            write 0-50:ab cd|60-90:x
            load = 2
            shift 0 0 = 2
            undo = 1
            setEnd 0 50 = 50
            undo = 1
            seat = 0
            undo = 1
            set GAP 2 = 2
            undo = 1
            split 0 = 2
            undo = 1
            subtitle 0 2 = 5
            join 0 = 7
            undo = 1
            subtitle 0 2 = 5
            subtitle 0 1 = 50
            character 0 4 = 100
            character 1 0 = 120
            remove 0 = 1
            undo = 1
            subtitles = 2
            character 0 0 = 97
            cut 9 = 1
            undo = 1
            uncut 9 = NO_SUCH
            cut 9 = 1
            uncut 9 = 0
            undo = 2
            cutAt 0 = 9
            """);
        Rows.promise(7, "errors and questions are not recorded", """
            write 0-50:ab
            load = 1
            undo = 0
            load = 1
            remove 1 = NO_SUCH
            shift 0 -1 = NOT_POSSIBLE
            setEnd 0 0 = NOT_POSSIBLE
            split 0 = NOT_POSSIBLE
            join 0 = NO_SUCH
            cut 0 = BAD_VALUE
            uncut 1 = NO_SUCH
            set SPEED 1 = BAD_VALUE
            append 97 = 8
            ifSeated 0 = 0
            bestGap = 0
            undo = 0
            """);
    }

    private static void changes() {
        Rows.promise(8, "remove", """
            write 0-5:a|10-15:b|20-25:c
            load = 3
            remove 3 = NO_SUCH
            remove -1 = NO_SUCH
            remove min = NO_SUCH
            remove max = NO_SUCH
            remove 1 = 2
            character 1 0 = 99
            subtitle 1 0 = 20
            subtitle 2 0 = NO_SUCH
            remove 0 = 1
            character 0 0 = 99
            remove 0 = 0
            remove 0 = NO_SUCH
            write 3-4:z
            load = 1
            character 0 0 = 122
            """);
        Rows.promise(9, "shift", """
            write 10-20:a|30-40:b|50-4000:c
            load = 3
            shift 3 0 = NO_SUCH
            shift -1 1000 = NO_SUCH
            shift 0 1000 = BAD_VALUE
            shift 0 -1000 = BAD_VALUE
            shift 0 min = BAD_VALUE
            shift 0 max = BAD_VALUE
            shift 0 -11 = NOT_POSSIBLE
            shift 0 -10 = 3
            subtitle 0 0 = 0
            subtitle 0 1 = 10
            subtitle 2 1 = 3990
            shift 1 -11 = NOT_POSSIBLE
            shift 1 -10 = 2
            subtitle 0 0 = 0
            subtitle 1 0 = 10
            subtitle 1 1 = 20
            shift 2 999 = 1
            subtitle 2 0 = 1029
            subtitle 2 1 = 4979
            subtitle 1 1 = 20
            shift 1 22 = NOT_POSSIBLE
            shift 1 21 = 2
            subtitle 2 1 = 5000
            shift 2 -999 = 1
            subtitle 2 1 = 4001
            shift 0 0 = 3
            """);
        Rows.promise(10, "setEnd", """
            write 10-20:a|30-40:b
            load = 2
            setEnd 2 50 = NO_SUCH
            setEnd -1 -1 = NO_SUCH
            setEnd 0 -1 = BAD_VALUE
            setEnd 0 5001 = BAD_VALUE
            setEnd 0 max = BAD_VALUE
            setEnd 0 0 = NOT_POSSIBLE
            setEnd 0 10 = NOT_POSSIBLE
            setEnd 0 31 = NOT_POSSIBLE
            setEnd 0 30 = 20
            setEnd 0 11 = 30
            subtitle 0 1 = 11
            setEnd 1 5000 = 40
            subtitle 1 1 = 5000
            setEnd 1 5001 = BAD_VALUE
            subtitle 1 1 = 5000
            """);
        splits();
        joins();
    }

    private static void splits() {
        Rows.promise(11, "split where the sense allows", """
            write 0-50:a, b. c d, e
            load = 1
            subtitle 0 6 = 5
            split 0 = 5
            subtitles = 2
            subtitle 0 2 = 5
            subtitle 1 2 = 6
            subtitle 0 1 = 21
            subtitle 1 0 = 23
            subtitle 1 1 = 50
            character 0 4 = 46
            character 1 0 = 99
            character 1 5 = 101
            subtitle 1 6 = 4
            subtitle 0 6 = 2
            """);
        Rows.promise(11, "the blank nearest to the middle, the first of two", """
            write 0-50:aa bb cc|60-90:aaa b ccc|100-130:a. b. c. d|140-150:a b c d
            load = 4
            subtitle 0 6 = 2
            subtitle 1 6 = 3
            subtitle 2 6 = 5
            subtitle 3 6 = 3
            split 0 = 2
            character 1 0 = 98
            subtitle 1 2 = 5
            """);
        Rows.promise(11, "the middle lies at half the length minus 1", """
            write 0-50:aa bb c|60-90:aaa bb ccc|100-130:a bb cc dd e
            load = 3
            subtitle 0 6 = 2
            subtitle 1 6 = 3
            subtitle 2 6 = 4
            write 200-230:aa b ccc
            load = 1
            subtitle 3 6 = 4
            write 300-330:aaa b cc
            load = 1
            subtitle 4 6 = 3
            """);
        Rows.promise(11, "comma before any, full stop before comma", """
            write 0-50:a, bbbb cccc dd|60-99:aaaa bbbb, cccc d.|100-150:aaa, bbb, ccc d. e
            load = 3
            subtitle 0 6 = 2
            subtitle 1 6 = 10
            subtitle 2 6 = 16
            """);
        Rows.promise(11, "both parts are shown", """
            write 0-4:a bbbbbbbbbbbbbbbb|10-14:bbbbbbbbbbbbbbbb a|20-23:a b
            load = 3
            split 2 = NOT_POSSIBLE
            split 0 = 1
            subtitle 0 1 = 1
            subtitle 1 0 = 3
            subtitle 1 1 = 4
            split 2 = 16
            subtitle 2 1 = 11
            subtitle 3 0 = 13
            set GAP 1 = 2
            split 4 = 1
            subtitle 4 1 = 21
            subtitle 5 0 = 22
            """);
        Rows.promise(11, "the first is shown for at most all but one frame", """
            set GAP 0 = 2
            write 0-2:a bbbbbbbbbbbbb|10-20:aaaaaaaaaaaaaaaaaaaaaaaaaa b|30-37:aaa bb
            load = 3
            split 0 = 1
            subtitle 0 1 = 1
            subtitle 1 0 = 1
            subtitle 1 1 = 2
            split 2 = 26
            subtitle 2 1 = 19
            subtitle 3 1 = 20
            split 4 = 3
            subtitle 4 1 = 34
            """);
        Rows.promise(11, "wrong splits", """
            split 0 = NO_SUCH
            write 0-40:ab
            load = 1
            split 0 = NOT_POSSIBLE
            split 1 = NO_SUCH
            split -1 = NO_SUCH
            """);
        Rows.promise(11, "no room", """
            write 0-1:a|2-3:b|4-5:c|6-7:d|8-9:e|10-11:f|12-13:g|14-15:h|16-17:i|18-19:j
            load = 10
            write 20-21:a|22-23:b|24-25:c|26-27:d|28-29:e|30-31:f|32-33:g|34-35:h|36-37:i
            load = 9
            write 40-80:k l
            load = 1
            split 19 = TOO_MANY
            split 18 = NOT_POSSIBLE
            remove 0 = 19
            split 18 = 1
            subtitles = 20
            character 19 0 = 108
            """);
    }

    private static void joins() {
        Rows.promise(12, "join", """
            write 0-10:ab|20-30:c.|40-60:d
            load = 3
            join 2 = NO_SUCH
            join 3 = NO_SUCH
            join -1 = NO_SUCH
            join max = NO_SUCH
            join 1 = 4
            subtitles = 2
            subtitle 1 0 = 20
            subtitle 1 1 = 60
            subtitle 1 2 = 4
            character 1 1 = 46
            character 1 2 = 32
            character 1 3 = 100
            character 1 4 = NONE
            join 0 = 7
            subtitle 0 0 = 0
            subtitle 0 1 = 60
            character 0 2 = 32
            character 0 3 = 99
            join 0 = NO_SUCH
            """);
        Rows.promise(12, "the ones behind keep their order", """
            write 0-10:a|20-30:b|40-50:c|60-70:d|80-90:e
            load = 5
            join 1 = 3
            subtitles = 4
            subtitle 1 0 = 20
            subtitle 1 1 = 50
            subtitle 2 0 = 60
            character 2 0 = 100
            character 3 0 = 101
            write 100-110:f
            load = 1
            character 1 2 = 99
            character 3 0 = 101
            character 4 0 = 102
            """);
        Rows.promise(12, "at most 40 characters", """
            write 0-10:aaaaaaaaaaaaaaaaaaaa|20-30:bbbbbbbbbbbbbbbbbbbb
            load = 2
            join 0 = TOO_MANY
            subtitles = 2
            remove 1 = 1
            write 20-30:bbbbbbbbbbbbbbbbbbb
            load = 1
            join 0 = 40
            character 0 39 = 98
            character 0 40 = NONE
            """);
    }

    private static void seats() {
        Rows.promise(13, "seat moves the end, then the start", """
            write 10-11:a|100-110:b|130-140:c
            load = 3
            seat = 3
            subtitle 0 0 = 10
            subtitle 0 1 = 35
            subtitle 1 0 = 100
            subtitle 1 1 = 125
            subtitle 2 1 = 155
            seat = 0
            """);
        Rows.promise(13, "seat keeps the gap to both sides", """
            write 0-20:a|24-30:b|40-45:c|4990-5000:d
            load = 4
            seat = 4
            subtitle 0 1 = 22
            subtitle 0 0 = 0
            subtitle 1 0 = 24
            subtitle 1 1 = 38
            subtitle 2 1 = 65
            subtitle 3 1 = 5000
            subtitle 3 0 = 4975
            """);
        Rows.promise(13, "the first one begins at 0 at the least", """
            write 4-10:a|20-60:b
            load = 2
            seat = 1
            subtitle 0 0 = 0
            subtitle 0 1 = 18
            """);
        Rows.promise(13, "seat never makes a subtitle shorter for the gap", """
            write 10-20:a|21-30:b|31-90:c
            load = 3
            seat = 1
            subtitle 0 0 = 0
            subtitle 0 1 = 20
            subtitle 1 0 = 21
            subtitle 1 1 = 30
            subtitle 2 0 = 31
            """);
        Rows.promise(13, "a long text needs more than LEAST", """
            write 0-5:aaaaaaaaaabbbbbbbbbb
            load = 1
            subtitle 0 3 = 30
            seat = 1
            subtitle 0 1 = 30
            """);
        Rows.promise(13, "seat snaps to a cut", """
            write 0-30:a|100-130:b|200-230:c
            load = 3
            cut 24 = 1
            cut 36 = 2
            cut 125 = 3
            cut 224 = 4
            seat = 1
            subtitle 0 1 = 30
            subtitle 1 1 = 125
            subtitle 2 1 = 230
            uncut 24 = 3
            cut 237 = 4
            seat = 1
            subtitle 0 1 = 36
            subtitle 2 1 = 230
            uncut 224 = 3
            cut 236 = 4
            seat = 1
            subtitle 2 1 = 236
            """);
        Rows.promise(13, "a cut that is the end already holds it", """
            write 0-40:a
            load = 1
            cut 40 = 1
            cut 42 = 2
            seat = 0
            subtitle 0 1 = 40
            """);
        Rows.promise(13, "no snap above the limit", """
            write 0-40:a|45-90:b
            load = 2
            cut 44 = 1
            seat = 0
            cut 43 = 2
            seat = 1
            subtitle 0 1 = 43
            """);
        Rows.promise(13, "no snap to a cut that leaves too few frames", """
            write 0-28:a
            load = 1
            cut 24 = 1
            seat = 0
            uncut 24 = 0
            cut 25 = 1
            seat = 1
            subtitle 0 1 = 25
            """);
        Rows.promise(13, "a far cut is left alone, and the earlier one of two is taken", """
            write 0-100:a|200-240:b
            load = 2
            cut 50 = 1
            cut 150 = 2
            seat = 0
            cut 237 = 3
            cut 243 = 4
            seat = 1
            subtitle 1 1 = 237
            """);
        Rows.promise(13, "no subtitles", "seat = 0\nundo = 0");
    }

    private static void cutsAndSettings() {
        Rows.promise(14, "cut", """
            cut 0 = BAD_VALUE
            cut -1 = BAD_VALUE
            cut 5000 = BAD_VALUE
            cut min = BAD_VALUE
            cut 4999 = 1
            cut 1 = 2
            cut 1 = NOT_POSSIBLE
            cut 20 = 3
            cut 10 = 4
            cutAt 0 = 1
            cutAt 1 = 10
            cutAt 2 = 20
            cutAt 3 = 4999
            cut 100 = 5
            cut 101 = 6
            cut 102 = 7
            cut 103 = 8
            cut 104 = 9
            cut 105 = 10
            cut 106 = 11
            cut 107 = 12
            cut 108 = TOO_MANY
            cut 107 = NOT_POSSIBLE
            cut 0 = BAD_VALUE
            cuts = 12
            """);
        Rows.promise(15, "uncut", """
            uncut 5 = NO_SUCH
            uncut 0 = NO_SUCH
            cut 5 = 1
            cut 7 = 2
            cut 9 = 3
            uncut 6 = NO_SUCH
            uncut 5 = 2
            cutAt 0 = 7
            cutAt 1 = 9
            cutAt 2 = NONE
            uncut 5 = NO_SUCH
            uncut 9 = 1
            uncut 7 = 0
            uncut 0 = NO_SUCH
            uncut min = NO_SUCH
            uncut max = NO_SUCH
            """);
        Rows.promise(16, "the ranges of the settings", """
            set -1 10 = NO_SUCH
            set 6 min = NO_SUCH
            set max 10 = NO_SUCH
            set SPEED 4 = BAD_VALUE
            set SPEED 41 = BAD_VALUE
            set SPEED 5 = 17
            set SPEED 40 = 5
            set GAP -1 = BAD_VALUE
            set GAP 21 = BAD_VALUE
            set GAP 0 = 2
            set GAP 20 = 0
            set LEAST 4 = BAD_VALUE
            set LEAST 51 = BAD_VALUE
            set LEAST 5 = 25
            set LEAST 50 = 5
            set MOST 49 = BAD_VALUE
            set MOST 251 = BAD_VALUE
            set MOST 50 = 150
            set MOST 250 = 50
            set WIDTH 9 = BAD_VALUE
            set WIDTH 41 = BAD_VALUE
            set WIDTH 10 = 20
            set WIDTH 40 = 10
            set SNAP -1 = BAD_VALUE
            set SNAP 13 = BAD_VALUE
            set SNAP 0 = 6
            set SNAP 12 = 0
            setting SPEED = 40
            setting GAP = 20
            setting LEAST = 50
            setting MOST = 250
            setting WIDTH = 40
            setting SNAP = 12
            """);
        Rows.promise(22, "cuts", """
            cuts = 0
            cut 9 = 1
            cuts = 1
            cut 9 = NOT_POSSIBLE
            cuts = 1
            uncut 9 = 0
            cuts = 0
            """);
        Rows.promise(23, "cutAt", """
            cutAt 0 = NONE
            cutAt -1 = BAD_VALUE
            cutAt min = BAD_VALUE
            cut 30 = 1
            cut 20 = 2
            cutAt 0 = 20
            cutAt 1 = 30
            cutAt 2 = NONE
            cutAt 12 = NONE
            cutAt max = NONE
            """);
        Rows.promise(24, "setting", """
            setting -1 = NO_SUCH
            setting 6 = NO_SUCH
            setting min = NO_SUCH
            setting max = NO_SUCH
            set SNAP 3 = 6
            setting SNAP = 3
            setting WIDTH = 20
            """);
    }

    private static void questions() {
        Rows.promise(17, "subtitles", """
            subtitles = 0
            write 0-10:a b|20-30:c|25-50:d
            load = 2
            subtitles = 2
            split 0 = 1
            subtitles = 3
            """);
        Rows.promise(18, "subtitle", """
            subtitle 0 0 = NO_SUCH
            write 10-60:aaaaaaaaaabbbbbbbbbbccccccc ddd.|70-80:e
            load = 2
            subtitle 0 0 = 10
            subtitle 0 1 = 60
            subtitle 0 2 = 32
            subtitle 0 3 = 48
            subtitle 0 4 = 32
            subtitle 0 5 = 2
            subtitle 0 6 = 27
            subtitle 0 7 = BAD_VALUE
            subtitle 0 -1 = BAD_VALUE
            subtitle 0 max = BAD_VALUE
            subtitle 0 min = BAD_VALUE
            subtitle 2 7 = NO_SUCH
            subtitle -1 0 = NO_SUCH
            subtitle min 0 = NO_SUCH
            subtitle max 0 = NO_SUCH
            subtitle 1 3 = 25
            subtitle 1 6 = NONE
            subtitle 1 5 = 1
            set SPEED 16 = 17
            subtitle 0 3 = 50
            set SPEED 40 = 16
            subtitle 0 3 = 25
            set LEAST 5 = 25
            subtitle 0 3 = 20
            subtitle 1 3 = 5
            """);
        Rows.promise(19, "character", """
            character 0 0 = NO_SUCH
            write 10-60:a, z.
            load = 1
            character 0 0 = 97
            character 0 1 = 44
            character 0 2 = 32
            character 0 3 = 122
            character 0 4 = 46
            character 0 5 = NONE
            character 0 40 = NONE
            character 0 max = NONE
            character 0 -1 = BAD_VALUE
            character 0 min = BAD_VALUE
            character 1 -1 = NO_SUCH
            character -1 0 = NO_SUCH
            """);
        Rows.promise(20, "line", """
            line 0 0 = NO_SUCH
            set WIDTH 10 = 20
            write 0-50:aaaa bbbbb ccccc ddddd ee fffffffffff g
            load = 1
            subtitle 0 5 = 5
            line 0 0 = 10
            line 0 1 = 5
            line 0 2 = 8
            line 0 3 = 11
            line 0 4 = 1
            line 0 5 = NONE
            line 0 max = NONE
            line 0 -1 = BAD_VALUE
            line 0 min = BAD_VALUE
            line 1 -1 = NO_SUCH
            line -1 0 = NO_SUCH
            set WIDTH 11 = 10
            subtitle 0 5 = 5
            set WIDTH 39 = 11
            line 0 0 = 39
            line 0 1 = NONE
            set WIDTH 38 = 39
            line 0 0 = 37
            line 0 1 = 1
            """);
        Rows.promise(21, "at", """
            at 0 = NONE
            at -1 = BAD_VALUE
            at 5000 = BAD_VALUE
            at min = BAD_VALUE
            at max = BAD_VALUE
            write 0-5:a|5-10:b|4990-5000:c
            load = 3
            at 0 = 0
            at 4 = 0
            at 5 = 1
            at 9 = 1
            at 10 = NONE
            at 4989 = NONE
            at 4990 = 2
            at 4999 = 2
            """);
        Rows.promise(26, "shown", """
            shown = 0
            write 0-5:a|7-100:b
            load = 2
            shown = 98
            setEnd 0 6 = 5
            shown = 99
            """);
        Rows.promise(27, "one frame", """
            write 7-8:abc
            load = 1
            meanSpeed = 75.0
            """);
        Rows.promise(27, "meanSpeed", """
            meanSpeed = 0.0
            write 0-7:a|10-13:bb|20-26:ccccc
            load = 3
            meanSpeed = 12.5
            setEnd 2 27 = 26
            meanSpeed = 11.764706
            setEnd 2 5000 = 27
            meanSpeed = 0.040080160
            """);
    }

    private static void faults() {
        Rows.promise(18, "faults 1, 2 and 4 at their edges", """
            write 0-25:aaaaaaaaaaaaaaaaa|100-125:bbbbbbbbbbbbbbbbbb|200-350:c|400-551:d|600-624:e
            load = 5
            subtitle 0 4 = 0
            subtitle 1 4 = 1
            subtitle 2 4 = 0
            subtitle 3 4 = 4
            subtitle 4 4 = 2
            """);
        Rows.promise(18, "fault 8 at its edges", """
            write 0-30:a|32-60:b|61-90:c
            load = 3
            subtitle 0 4 = 0
            subtitle 1 4 = 8
            subtitle 2 4 = 0
            set GAP 0 = 2
            subtitle 1 4 = 0
            """);
        Rows.promise(18, "fault 16 at its edges", """
            write 100-200:a
            load = 1
            cut 100 = 1
            cut 200 = 2
            cut 106 = 3
            cut 194 = 4
            subtitle 0 4 = 0
            cut 105 = 5
            subtitle 0 4 = 16
            uncut 105 = 4
            cut 195 = 5
            subtitle 0 4 = 16
            uncut 195 = 4
            cut 101 = 5
            subtitle 0 4 = 16
            uncut 101 = 4
            cut 199 = 5
            subtitle 0 4 = 16
            set SNAP 1 = 6
            subtitle 0 4 = 0
            """);
        Rows.promise(18, "fault 32 at its edges", """
            set WIDTH 10 = 20
            write 0-70:aaaaaaaaaa bbbbbbbbbb|100-170:aaaaaaaaaaa bb|200-270:aaaaaa bbbbbb ccc
            load = 3
            subtitle 0 4 = 0
            subtitle 1 4 = 32
            subtitle 2 4 = 0
            remove 2 = 2
            write 200-270:aaaaaa bbbbbb cccc
            load = 1
            subtitle 2 4 = 32
            """);
        Rows.promise(25, "faulty", """
            faulty 0 = 0
            write 0-10:aaaaaaaaaa|11-40:b|41-300:c|310-330:d
            load = 4
            faulty 0 = 4
            faulty 1 = 1
            faulty 2 = 2
            faulty 4 = 1
            faulty 8 = 2
            faulty 16 = 0
            faulty 32 = 0
            cut 299 = 1
            cut 312 = 2
            faulty 16 = 2
            set GAP 0 = 2
            faulty 8 = 0
            faulty 0 = 3
            faulty 3 = BAD_VALUE
            faulty -1 = BAD_VALUE
            faulty 5 = BAD_VALUE
            faulty 63 = BAD_VALUE
            faulty 64 = BAD_VALUE
            faulty min = BAD_VALUE
            faulty max = BAD_VALUE
            """);
        Rows.promise(25, "any fault counts for 0", """
            write 0-25:aaaaaaaaaabbbbbbbbbb
            load = 1
            subtitle 0 4 = 1
            faulty 0 = 1
            faulty 1 = 1
            """);
        Rows.promise(25, "faulty lines", """
            write 0-100:aaaaaaaaaabbbbbbbbbbc
            load = 1
            faulty 32 = 1
            faulty 0 = 1
            set WIDTH 21 = 20
            faulty 32 = 0
            """);
    }

    private static void wouldBes() {
        Rows.promise(30, "a full film", """
            write 0-1:a|2-3:b|4-5:c|6-7:d|8-9:e|10-11:f|12-13:g|14-15:h|16-17:i|18-19:j
            load = 10
            write 20-21:a|22-23:b|24-25:c|26-27:d|28-29:e|30-31:f|32-33:g|34-35:h|36-37:i
            load = 9
            write 38-39:s
            load = 1
            cut 101 = 1
            cut 102 = 2
            cut 103 = 3
            cut 104 = 4
            cut 105 = 5
            cut 106 = 6
            cut 107 = 7
            cut 108 = 8
            cut 109 = 9
            cut 110 = 10
            cut 111 = 11
            cut 112 = 12
            cut 113 = TOO_MANY
            at 39 = NONE
            at 38 = 19
            shown = 20
            meanSpeed = 25.0
            unread 24 = 20
            unread 25 = 0
            leastPace = 25
            faulty 0 = 20
            faulty 8 = 19
            faulty 16 = 0
            bestGap = 0
            ifSeated 0 = 1
            ifSeated 1 = 19
            ifSeated 2 = 44
            shift 0 1 = 20
            subtitle 19 1 = 40
            seat = 2
            subtitle 0 0 = 0
            subtitle 19 1 = 64
            undo = 3
            cuts = 12
            uncut 101 = 11
            uncut 112 = 10
            cutAt 0 = 102
            cutAt 9 = 111
            cutAt 10 = NONE
            join 18 = 3
            remove 0 = 18
            """);
        Rows.promise(28, "unread", """
            unread 1 = 0
            unread 0 = BAD_VALUE
            unread 61 = BAD_VALUE
            unread min = BAD_VALUE
            unread max = BAD_VALUE
            write 0-25:aaaaaaaaaa|30-40:b|50-51:cc
            load = 3
            unread 1 = 3
            unread 2 = 3
            unread 3 = 2
            unread 9 = 2
            unread 10 = 1
            unread 49 = 1
            unread 50 = 0
            unread 60 = 0
            """);
        Rows.promise(29, "leastPace", """
            leastPace = 1
            write 0-25:aaaaaaaaaa|30-40:b
            load = 2
            leastPace = 10
            setEnd 0 24 = 25
            leastPace = 11
            setEnd 0 5 = 24
            leastPace = 50
            setEnd 0 4 = 5
            leastPace = NONE
            """);
        Rows.promise(29, "leastPace up to 60", """
            write 0-5:aaaaaaaaaaaa
            load = 1
            leastPace = 60
            unread 60 = 0
            """);
        Rows.promise(30, "ifSeated changes nothing", """
            ifSeated 0 = 0
            ifSeated 1 = 0
            ifSeated 2 = 0
            ifSeated 3 = BAD_VALUE
            ifSeated -1 = BAD_VALUE
            ifSeated min = BAD_VALUE
            ifSeated max = BAD_VALUE
            write 10-20:a|30-100:b|101-110:c|4990-4995:d
            load = 4
            cut 97 = 1
            ifSeated 0 = 4
            ifSeated 1 = 0
            ifSeated 2 = 142
            faulty 0 = 4
            shown = 94
            subtitle 0 1 = 20
            seat = 4
            shown = 142
            faulty 0 = 0
            ifSeated 0 = 0
            undo = 2
            subtitle 1 1 = 100
            """);
        Rows.promise(30, "faults that stay", """
            write 10-20:a|21-30:b|31-90:c
            load = 3
            ifSeated 0 = 1
            ifSeated 1 = 2
            ifSeated 2 = 88
            """);
        Rows.promise(31, "bestGap", """
            bestGap = 0
            write 0-20:aaaaaaaaaa|20-30:bbbbbbbbbb|90-120:c
            load = 3
            bestGap = 0
            setting GAP = 2
            subtitle 1 1 = 30
            """);
        Rows.promise(31, "a gap that keeps a cut out of reach of the first one", """
            set LEAST 5 = 25
            set SPEED 25 = 17
            cut 30 = 1
            write 0-25:a|32-42:bbbbbbbbbbbbbb|43-90:c
            load = 3
            bestGap = 3
            setting GAP = 2
            subtitle 0 1 = 25
            ifSeated 0 = 1
            faulty 1 = 1
            seat = 1
            faulty 1 = 1
            undo = 3
            set GAP 3 = 2
            bestGap = 3
            seat = 1
            faulty 1 = 0
            subtitle 1 0 = 28
            """);
        Rows.promise(31, "only a gap of 11 helps, as large as it can be with SNAP at most 12", """
            set LEAST 5 = 25
            set SPEED 25 = 17
            set SNAP 12 = 6
            write 0-25:a|47-57:aaaaaaaaaabbbbbbbbbbc|57-90:c
            load = 3
            bestGap = 0
            cut 37 = 1
            bestGap = 11
            setting GAP = 2
            undo = 3
            bestGap = 0
            """);
    }
}
