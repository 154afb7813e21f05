/** The boundary cases of the changes, promises 8 to 16, a test for each sentence that names one. */
public final class BoundaryChangeTest {
    public static void main(String[] args) {
        remove();
        shiftArguments();
        shiftPlaces();
        setEnd();
        splitRefusals();
        splitTimes();
        splitBlanks();
        join();
        seatEnds();
        seatStarts();
        seatCuts();
        seatCounts();
        cut();
        uncut();
        setArguments();
        setRanges();
        Rows.finish(8, 16);
    }

    private static void remove() {
        Rows.promise(8, "there is no such subtitle", """
            remove 0 = NO_SUCH
            write 0-5:a|10-15:b|20-25:c
            load = 3
            remove -1 = NO_SUCH
            remove 3 = NO_SUCH
            remove 19 = NO_SUCH
            remove 20 = NO_SUCH
            remove min = NO_SUCH
            remove max = NO_SUCH
            subtitles = 3
            undo = 0
            """);
        Rows.promise(8, "the first one and the last one of 20", """
            make film 20
            remove 20 = NO_SUCH
            remove 19 = 19
            remove 19 = NO_SUCH
            character 18 0 = 115
            remove 0 = 18
            character 0 0 = 98
            subtitle 0 0 = 10
            character 17 0 = 115
            subtitle 17 1 = 185
            subtitle 18 0 = NO_SUCH
            """);
        Rows.promise(8, "the only one, at the ends of the time", """
            write 0-5000:a
            load = 1
            remove 0 = 0
            remove 0 = NO_SUCH
            subtitles = 0
            at 0 = NONE
            at 4999 = NONE
            """);
        Rows.promise(8, "one from 20 makes room for another one", """
            make film 20
            remove 7 = 19
            write 70-75:x|500-501:y
            load = 1
            subtitles = 20
            character 7 0 = 120
            character 8 0 = 105
            why 1 = 3
            """);
        Rows.promise(8, "until there is none left", """
            write 0-1:a|2-3:b|4-5:c
            load = 3
            remove 2 = 2
            remove 0 = 1
            character 0 0 = 98
            remove 0 = 0
            remove 0 = NO_SUCH
            undo = 3
            subtitles = 1
            character 0 0 = 98
            """);
    }

    private static void shiftArguments() {
        Rows.promise(9, "there is no such subtitle", """
            shift 0 0 = NO_SUCH
            write 100-105:a|110-115:b
            load = 2
            shift -1 1 = NO_SUCH
            shift 2 1 = NO_SUCH
            shift 20 1 = NO_SUCH
            shift min 1 = NO_SUCH
            shift max 1 = NO_SUCH
            undo = 0
            """);
        Rows.promise(9, "the least and the greatest number of frames", """
            write 2000-2005:a|3000-3010:b
            load = 2
            shift 0 999 = 2
            subtitle 0 0 = 2999
            subtitle 1 1 = 4009
            shift 0 -999 = 2
            subtitle 0 0 = 2000
            subtitle 0 1 = 2005
            subtitle 1 0 = 3000
            """);
        Rows.promise(9, "frames out of range", """
            write 2000-2005:a
            load = 1
            shift 0 1000 = BAD_VALUE
            shift 0 -1000 = BAD_VALUE
            shift 0 min = BAD_VALUE
            shift 0 max = BAD_VALUE
            subtitle 0 0 = 2000
            undo = 0
            """);
        Rows.promise(9, "frames with which an int would wrap around to a time", """
            write 4000-4005:a
            load = 1
            shift 0 -2147483648 = BAD_VALUE
            shift 0 2147483647 = BAD_VALUE
            shift 0 2147480000 = BAD_VALUE
            subtitle 0 0 = 4000
            """);
        Rows.promise(9, "NO_SUCH comes ahead of BAD_VALUE", """
            shift 0 1000 = NO_SUCH
            write 0-5:a
            load = 1
            shift 1 1000 = NO_SUCH
            shift -1 min = NO_SUCH
            shift max max = NO_SUCH
            """);
        Rows.promise(9, "BAD_VALUE comes ahead of NOT_POSSIBLE", """
            write 0-5000:a
            load = 1
            shift 0 1000 = BAD_VALUE
            shift 0 -1000 = BAD_VALUE
            shift 0 999 = NOT_POSSIBLE
            shift 0 -999 = NOT_POSSIBLE
            """);
    }

    private static void shiftPlaces() {
        Rows.promise(9, "the first one starts at 0 at the earliest", """
            write 999-1000:a|1001-1002:b
            load = 2
            shift 0 -999 = 2
            subtitle 0 0 = 0
            subtitle 0 1 = 1
            subtitle 1 0 = 2
            shift 0 -1 = NOT_POSSIBLE
            subtitle 0 0 = 0
            undo = 1
            shift 0 -998 = 2
            shift 0 -2 = NOT_POSSIBLE
            """);
        Rows.promise(9, "not before the end of the one before", """
            write 0-10:a|15-20:b|30-40:c
            load = 3
            shift 1 -6 = NOT_POSSIBLE
            shift 1 -5 = 2
            subtitle 1 0 = 10
            subtitle 1 1 = 15
            subtitle 2 0 = 25
            shift 1 -1 = NOT_POSSIBLE
            shift 2 -10 = 1
            shift 2 -1 = NOT_POSSIBLE
            shift 0 -1 = NOT_POSSIBLE
            subtitle 0 0 = 0
            subtitle 2 0 = 15
            """);
        Rows.promise(9, "the last one ends at 5000 at the latest", """
            write 0-10:a|20-30:b|4980-4990:c
            load = 3
            shift 0 11 = NOT_POSSIBLE
            shift 0 10 = 3
            subtitle 0 0 = 10
            subtitle 1 1 = 40
            subtitle 2 0 = 4990
            subtitle 2 1 = 5000
            shift 0 1 = NOT_POSSIBLE
            shift 1 1 = NOT_POSSIBLE
            shift 2 1 = NOT_POSSIBLE
            subtitle 1 1 = 40
            """);
        Rows.promise(9, "one that is shown all the time", """
            write 0-5000:a
            load = 1
            shift 0 1 = NOT_POSSIBLE
            shift 0 -1 = NOT_POSSIBLE
            shift 0 0 = 1
            subtitle 0 0 = 0
            subtitle 0 1 = 5000
            """);
        Rows.promise(9, "by no frame, which is recorded", """
            write 0-5:a|5-10:b
            load = 2
            shift 1 0 = 1
            shift 0 0 = 2
            subtitle 1 0 = 5
            undo = 2
            undo = 1
            undo = 0
            """);
        Rows.promise(9, "the first one and the last one of 20", """
            make film 20
            shift 20 1 = NO_SUCH
            shift 19 999 = 1
            subtitle 19 0 = 1189
            subtitle 18 0 = 180
            shift 0 1 = 20
            subtitle 0 0 = 1
            subtitle 10 1 = 106
            subtitle 19 1 = 1195
            """);
        Rows.promise(9, "cuts stay where they are", """
            write 10-15:a
            load = 1
            cut 12 = 1
            shift 0 5 = 1
            cutAt 0 = 12
            """);
    }

    private static void setEnd() {
        Rows.promise(10, "there is no such subtitle", """
            setEnd 0 1 = NO_SUCH
            write 0-5:a|10-15:b
            load = 2
            setEnd -1 20 = NO_SUCH
            setEnd 2 20 = NO_SUCH
            setEnd 20 20 = NO_SUCH
            setEnd min 20 = NO_SUCH
            setEnd max 20 = NO_SUCH
            undo = 0
            """);
        Rows.promise(10, "the frame is out of range", """
            write 0-5:a
            load = 1
            setEnd 0 -1 = BAD_VALUE
            setEnd 0 5001 = BAD_VALUE
            setEnd 0 min = BAD_VALUE
            setEnd 0 max = BAD_VALUE
            subtitle 0 1 = 5
            undo = 0
            """);
        Rows.promise(10, "the least and the greatest frame", """
            write 0-5:a
            load = 1
            setEnd 0 0 = NOT_POSSIBLE
            setEnd 0 5000 = 5
            subtitle 0 1 = 5000
            setEnd 0 1 = 5000
            subtitle 0 1 = 1
            at 0 = 0
            at 1 = NONE
            """);
        Rows.promise(10, "above its start", """
            write 10-20:a|4999-5000:b
            load = 2
            setEnd 0 9 = NOT_POSSIBLE
            setEnd 0 10 = NOT_POSSIBLE
            setEnd 0 0 = NOT_POSSIBLE
            setEnd 0 11 = 20
            subtitle 0 1 = 11
            setEnd 1 4999 = NOT_POSSIBLE
            setEnd 1 5000 = 5000
            setEnd 1 5001 = BAD_VALUE
            """);
        Rows.promise(10, "not above the start of the next one", """
            write 10-20:a|30-40:b
            load = 2
            setEnd 0 31 = NOT_POSSIBLE
            setEnd 0 5000 = NOT_POSSIBLE
            subtitle 0 1 = 20
            set GAP 20 = 2
            setEnd 0 30 = 20
            subtitle 0 1 = 30
            at 29 = 0
            at 30 = 1
            setEnd 0 29 = 30
            """);
        Rows.promise(10, "NO_SUCH, BAD_VALUE, NOT_POSSIBLE, in this order", """
            setEnd 0 5001 = NO_SUCH
            write 10-20:a|30-40:b
            load = 2
            setEnd 2 5001 = NO_SUCH
            setEnd -1 -1 = NO_SUCH
            setEnd 2 0 = NO_SUCH
            setEnd 0 -1 = BAD_VALUE
            setEnd 0 5001 = BAD_VALUE
            """);
        Rows.promise(10, "the same end, which is recorded", """
            write 10-20:a
            load = 1
            setEnd 0 20 = 20
            undo = 1
            undo = 0
            """);
        Rows.promise(10, "the first one and the last one of 20", """
            make film 20
            setEnd 20 500 = NO_SUCH
            setEnd 19 5000 = 195
            setEnd 0 11 = NOT_POSSIBLE
            setEnd 0 10 = 5
            setEnd 18 191 = NOT_POSSIBLE
            setEnd 18 190 = 185
            subtitle 19 1 = 5000
            """);
    }

    private static void splitRefusals() {
        Rows.promise(11, "there is no such subtitle", """
            split 0 = NO_SUCH
            write 0-50:a b
            load = 1
            split -1 = NO_SUCH
            split 1 = NO_SUCH
            split 20 = NO_SUCH
            split min = NO_SUCH
            split max = NO_SUCH
            undo = 0
            """);
        Rows.promise(11, "its text has no blank", """
            write 0-50:a|100-200:<b*40>|300-350:.,a.
            load = 3
            split 0 = NOT_POSSIBLE
            split 1 = NOT_POSSIBLE
            split 2 = NOT_POSSIBLE
            undo = 0
            """);
        Rows.promise(11, "it is shown for GAP + 2 frames, or for one fewer", """
            write 0-3:a b|10-14:a b
            load = 2
            split 0 = NOT_POSSIBLE
            split 1 = 1
            subtitle 1 0 = 10
            subtitle 1 1 = 11
            subtitle 2 0 = 13
            subtitle 2 1 = 14
            """);
        Rows.promise(11, "GAP is 0", """
            set GAP 0 = 2
            write 0-1:a b|10-12:a b
            load = 2
            split 0 = NOT_POSSIBLE
            split 1 = 1
            subtitle 1 0 = 10
            subtitle 1 1 = 11
            subtitle 2 0 = 11
            subtitle 2 1 = 12
            """);
        Rows.promise(11, "GAP is 20", """
            set GAP 20 = 2
            write 0-21:a b|30-52:a b
            load = 2
            split 0 = NOT_POSSIBLE
            split 1 = 1
            subtitle 1 0 = 30
            subtitle 1 1 = 31
            subtitle 2 0 = 51
            subtitle 2 1 = 52
            """);
        Rows.promise(11, "there are 20 subtitles", """
            make film 19
            write 500-550:a b c
            load = 1
            split 19 = TOO_MANY
            subtitles = 20
            remove 0 = 19
            split 18 = 1
            subtitles = 20
            split 19 = TOO_MANY
            undo = 3
            subtitles = 19
            """);
        Rows.promise(11, "NO_SUCH, NOT_POSSIBLE, TOO_MANY, in this order", """
            make film 19
            write 500-503:a b
            load = 1
            split 20 = NO_SUCH
            split -1 = NO_SUCH
            split 0 = NOT_POSSIBLE
            split 19 = NOT_POSSIBLE
            setEnd 19 504 = 503
            split 19 = TOO_MANY
            """);
    }

    private static void splitTimes() {
        Rows.promise(11, "the first one is shown for at least 1 frame", """
            write 0-4:a <b*38>
            load = 1
            split 0 = 1
            subtitle 0 0 = 0
            subtitle 0 1 = 1
            subtitle 1 0 = 3
            subtitle 1 1 = 4
            subtitle 0 2 = 1
            subtitle 1 2 = 38
            """);
        Rows.promise(11, "as long as d * m / (m + n) is below 2", """
            set GAP 0 = 2
            write 0-38:a <b*38>
            load = 1
            split 0 = 1
            subtitle 0 1 = 1
            write 100-177:a <b*38>
            load = 1
            split 2 = 1
            subtitle 2 1 = 101
            write 200-278:a <b*38>
            load = 1
            split 4 = 1
            subtitle 4 1 = 202
            """);
        Rows.promise(11, "the first one is shown for at most d - 1 frames", """
            write 0-4:<a*38> b
            load = 1
            split 0 = 38
            subtitle 0 1 = 1
            subtitle 1 0 = 3
            subtitle 1 1 = 4
            subtitle 0 2 = 38
            subtitle 1 2 = 1
            """);
        Rows.promise(11, "the first one is shown for d - 1 frames, or for one fewer", """
            write 0-41:<a*38> b
            load = 1
            split 0 = 38
            subtitle 0 1 = 38
            subtitle 1 0 = 40
            undo = 1
            setEnd 0 42 = 41
            split 0 = 38
            subtitle 0 1 = 38
            subtitle 1 0 = 40
            subtitle 1 1 = 42
            """);
        Rows.promise(11, "rounded down", """
            set GAP 0 = 2
            write 0-10:aa b|20-29:aa b|40-48:aa b
            load = 3
            split 0 = 2
            subtitle 0 1 = 6
            subtitle 1 0 = 6
            split 2 = 2
            subtitle 2 1 = 26
            split 4 = 2
            subtitle 4 1 = 45
            """);
        Rows.promise(11, "a subtitle that is shown all the time", """
            write 0-5000:<a*38> b
            load = 1
            split 0 = 38
            subtitle 0 0 = 0
            subtitle 0 1 = 4869
            subtitle 1 0 = 4871
            subtitle 1 1 = 5000
            """);
        Rows.promise(11, "one between others that touch it", """
            write 0-10:a|10-20:b c|20-30:d
            load = 3
            split 1 = 1
            subtitles = 4
            subtitle 0 1 = 10
            subtitle 1 0 = 10
            subtitle 1 1 = 14
            subtitle 2 0 = 16
            subtitle 2 1 = 20
            subtitle 3 0 = 20
            character 1 0 = 98
            character 1 1 = NONE
            character 2 0 = 99
            character 3 0 = 100
            """);
    }

    private static void splitBlanks() {
        Rows.promise(11, "the only blank, as near to either end as can be", """
            write 0-50:a <b*38>
            load = 1
            write 60-99:<b*38> a|200-250:a b
            load = 2
            subtitle 0 6 = 1
            subtitle 1 6 = 38
            subtitle 2 6 = 1
            split 1 = 38
            subtitle 1 2 = 38
            subtitle 2 2 = 1
            character 2 0 = 97
            """);
        Rows.promise(11, "of two that are equally near, the first one", """
            write 0-50:a b c|60-99:aa b cc|100-150:a b c d e
            load = 3
            subtitle 0 6 = 1
            subtitle 1 6 = 2
            subtitle 2 6 = 3
            write 200-250:a. bb. c.|300-350:a, bb, c,
            load = 2
            subtitle 3 6 = 2
            subtitle 4 6 = 2
            """);
        Rows.promise(11, "one nearer by one character", """
            write 0-50:aa b ccc|60-99:aaa b cc
            load = 2
            subtitle 0 6 = 4
            subtitle 1 6 = 3
            """);
        Rows.promise(11, "the middle itself", """
            write 0-50:aa b c ddd|60-99:aaa b cccc d|100-150:a bbb cccc
            load = 3
            subtitle 0 6 = 4
            subtitle 1 6 = 5
            subtitle 2 6 = 5
            """);
        Rows.promise(11, "a full stop ahead of a comma, a comma ahead of any other", """
            write 0-50:a. bbbb, cccc dd|60-99:a, bbbb cccc|100-150:aa bb, cc d.
            load = 3
            subtitle 0 6 = 2
            subtitle 1 6 = 2
            subtitle 2 6 = 6
            write 200-250:a, bbbb, cccc d. e
            load = 1
            subtitle 3 6 = 16
            """);
        Rows.promise(11, "a full stop or a comma that is not right ahead of the blank", """
            write 0-50:a.b cc, dd|60-99:a .b c|100-150:a,b c ,d
            load = 3
            subtitle 0 6 = 7
            subtitle 1 6 = 1
            subtitle 2 6 = 3
            write 200-250:ab cd.|300-350:.a b, c
            load = 2
            subtitle 3 6 = 2
            subtitle 4 6 = 5
            """);
    }

    private static void join() {
        Rows.promise(12, "there is no such subtitle or no next one", """
            join 0 = NO_SUCH
            write 0-5:a
            load = 1
            join 0 = NO_SUCH
            write 10-15:b
            load = 1
            join -1 = NO_SUCH
            join 1 = NO_SUCH
            join 2 = NO_SUCH
            join min = NO_SUCH
            join max = NO_SUCH
            subtitles = 2
            undo = 1
            """);
        Rows.promise(12, "the text would have 40 characters", """
            write 0-5:<a*20>|10-15:<b*19>
            load = 2
            join 0 = 40
            character 0 19 = 97
            character 0 20 = 32
            character 0 21 = 98
            character 0 39 = 98
            character 0 40 = NONE
            """);
        Rows.promise(12, "the text would have 41 characters", """
            write 0-5:<a*20>|10-15:<b*20>
            load = 2
            join 0 = TOO_MANY
            subtitles = 2
            subtitle 0 1 = 5
            subtitle 0 2 = 20
            undo = 0
            """);
        Rows.promise(12, "one character and as many as there is room for", """
            write 0-5:a|10-15:<b*38>
            load = 2
            write 20-25:c|30-35:<d*39>
            load = 2
            join 2 = TOO_MANY
            join 0 = 40
            join 0 = TOO_MANY
            subtitles = 3
            """);
        Rows.promise(12, "as many characters as there is room for and one", """
            write 0-5:<a*38>|10-15:b
            load = 2
            write 20-25:<c*39>|30-35:d
            load = 2
            join 2 = TOO_MANY
            join 0 = 40
            """);
        Rows.promise(12, "two texts of 40 characters", """
            write 0-5:<a*40>
            load = 1
            write 5-10:<b*40>
            load = 1
            join 0 = TOO_MANY
            join 1 = NO_SUCH
            character 0 39 = 97
            character 1 39 = 98
            """);
        Rows.promise(12, "the shortest texts, which touch", """
            write 0-5:a|5-10:b
            load = 2
            join 0 = 3
            subtitle 0 0 = 0
            subtitle 0 1 = 10
            subtitles = 1
            join 0 = NO_SUCH
            """);
        Rows.promise(12, "from the first frame to the last one", """
            write 0-1:a|4999-5000:b
            load = 2
            join 0 = 3
            subtitle 0 0 = 0
            subtitle 0 1 = 5000
            shown = 5000
            """);
        Rows.promise(12, "the first two and the last two of 20", """
            make film 20
            join 19 = NO_SUCH
            join 18 = 3
            subtitles = 19
            subtitle 18 0 = 180
            subtitle 18 1 = 195
            join 18 = NO_SUCH
            join 0 = 3
            subtitle 0 1 = 15
            subtitle 1 0 = 20
            character 0 2 = 98
            character 1 0 = 99
            """);
    }

    private static void seatEnds() {
        Rows.promise(13, "there is no subtitle", """
            seat = 0
            undo = 0
            undo = NONE
            """);
        Rows.promise(13, "shown for as many frames as it needs, or for one fewer", """
            write 100-125:a|200-224:b|300-350:<c*34>
            load = 3
            write 400-451:<d*35>
            load = 1
            seat = 2
            subtitle 0 1 = 125
            subtitle 1 1 = 225
            subtitle 2 1 = 350
            subtitle 3 1 = 452
            """);
        Rows.promise(13, "the limit is just where its end would be, or one frame earlier", """
            write 10-20:a|37-80:b|110-120:c|136-180:d
            load = 4
            seat = 2
            subtitle 0 0 = 10
            subtitle 0 1 = 35
            subtitle 2 0 = 109
            subtitle 2 1 = 134
            subtitle 1 0 = 37
            subtitle 3 0 = 136
            """);
        Rows.promise(13, "the limit is its end, or below it", """
            write 40-50:a|52-90:b|140-150:c|151-190:d
            load = 4
            write 240-250:e|250-290:f
            load = 2
            seat = 3
            subtitle 0 0 = 25
            subtitle 0 1 = 50
            subtitle 2 0 = 125
            subtitle 2 1 = 150
            subtitle 4 0 = 225
            subtitle 4 1 = 250
            """);
        Rows.promise(13, "the limit is one frame above its end", """
            write 40-50:a|53-90:b
            load = 2
            seat = 1
            subtitle 0 0 = 26
            subtitle 0 1 = 51
            """);
        Rows.promise(13, "5000 is the limit of the last one, whatever GAP is", """
            set GAP 20 = 2
            write 4975-4990:a
            load = 1
            seat = 1
            subtitle 0 0 = 4975
            subtitle 0 1 = 5000
            setEnd 0 4999 = 5000
            seat = 1
            subtitle 0 1 = 5000
            seat = 0
            """);
        Rows.promise(13, "the last one ends at 5000", """
            write 4999-5000:a
            load = 1
            seat = 1
            subtitle 0 0 = 4975
            subtitle 0 1 = 5000
            """);
        Rows.promise(13, "the last one would end one frame above 5000", """
            write 4976-4990:a
            load = 1
            seat = 1
            subtitle 0 0 = 4975
            subtitle 0 1 = 5000
            """);
    }

    private static void seatStarts() {
        Rows.promise(13, "the first one starts at 0 at the earliest, whatever GAP is", """
            set GAP 20 = 2
            write 1-20:a|40-80:b
            load = 2
            seat = 1
            subtitle 0 0 = 0
            subtitle 0 1 = 20
            seat = 0
            """);
        Rows.promise(13, "the first one starts at 0 just as it needs", """
            write 10-25:a|27-60:b
            load = 2
            seat = 1
            subtitle 0 0 = 0
            subtitle 0 1 = 25
            """);
        Rows.promise(13, "GAP behind the end of the one before, and only if this is earlier", """
            write 0-25:a|28-40:b|42-90:c|100-125:d|127-140:e
            load = 5
            write 142-190:f|200-225:g|226-230:h|232-290:i
            load = 4
            seat = 1
            subtitle 1 0 = 27
            subtitle 1 1 = 40
            subtitle 4 0 = 127
            subtitle 4 1 = 140
            subtitle 7 0 = 226
            subtitle 7 1 = 230
            """);
        Rows.promise(13, "the start moves no further than it needs", """
            write 0-25:a|51-60:b|62-99:c
            load = 3
            seat = 1
            subtitle 1 0 = 35
            subtitle 1 1 = 60
            """);
        Rows.promise(13, "the start moves by what the text needs, more than LEAST", """
            write 0-20:a|100-130:<b*40>|132-160:c
            load = 3
            subtitle 1 3 = 59
            seat = 2
            subtitle 0 1 = 25
            subtitle 1 0 = 71
            subtitle 1 1 = 130
            subtitle 2 0 = 132
            """);
        Rows.promise(13, "the start moves by what the text needs, fewer than 25 frames", """
            set LEAST 5 = 25
            write 100-104:<a*10>|106-111:b
            load = 2
            subtitle 0 3 = 15
            seat = 1
            subtitle 0 0 = 89
            subtitle 0 1 = 104
            """);
        Rows.promise(13, "GAP is 0", """
            set GAP 0 = 2
            write 0-10:a|25-30:b|45-50:c|50-90:d
            load = 4
            seat = 2
            subtitle 0 1 = 25
            subtitle 1 0 = 25
            subtitle 1 1 = 45
            subtitle 2 0 = 45
            subtitle 2 1 = 50
            """);
        Rows.promise(13, "with the times that those before it have then", """
            write 0-10:a|35-45:b|47-90:c
            load = 3
            seat = 2
            subtitle 0 1 = 25
            subtitle 1 0 = 27
            subtitle 1 1 = 45
            """);
        Rows.promise(13, "the end of the one before is that of its cut then", """
            write 0-28:a|40-45:b|47-90:c
            load = 3
            cut 25 = 1
            seat = 2
            subtitle 0 1 = 25
            subtitle 1 0 = 27
            subtitle 1 1 = 45
            undo = 2
            uncut 25 = 0
            cut 34 = 1
            seat = 2
            subtitle 0 1 = 34
            subtitle 1 0 = 36
            """);
    }

    private static void seatCuts() {
        Rows.promise(13, "a cut is SNAP frames away, or one more", """
            write 0-50:a|100-150:b|200-250:c|300-350:d
            load = 4
            cut 56 = 1
            cut 144 = 2
            cut 257 = 3
            cut 343 = 4
            seat = 2
            subtitle 0 1 = 56
            subtitle 1 1 = 144
            subtitle 2 1 = 250
            subtitle 3 1 = 350
            """);
        Rows.promise(13, "SNAP is 0", """
            set SNAP 0 = 6
            write 0-50:a
            load = 1
            cut 51 = 1
            cut 49 = 2
            seat = 0
            cut 50 = 3
            seat = 0
            subtitle 0 1 = 50
            """);
        Rows.promise(13, "SNAP is 12", """
            set SNAP 12 = 6
            write 0-50:a|100-150:b
            load = 2
            cut 62 = 1
            cut 163 = 2
            seat = 1
            subtitle 0 1 = 62
            subtitle 1 1 = 150
            """);
        Rows.promise(13, "of two cuts that are equally near the earlier one, though it may not be possible", """
            write 0-50:a|100-127:b
            load = 2
            cut 54 = 1
            cut 46 = 2
            cut 124 = 3
            cut 130 = 4
            seat = 1
            subtitle 0 1 = 46
            subtitle 1 1 = 127
            """);
        Rows.promise(13, "the nearest cut alone counts", """
            write 0-40:a|46-90:b|100-140:c
            load = 3
            cut 45 = 1
            cut 34 = 2
            cut 141 = 3
            cut 138 = 4
            seat = 1
            subtitle 0 1 = 40
            subtitle 2 1 = 141
            """);
        Rows.promise(13, "the nearest cut is its end", """
            write 0-40:a
            load = 1
            cut 41 = 1
            cut 39 = 2
            cut 40 = 3
            seat = 0
            subtitle 0 1 = 40
            """);
        Rows.promise(13, "a cut at the limit, or one frame above it", """
            write 0-40:a|45-90:b|100-140:c|145-190:d
            load = 4
            cut 43 = 1
            cut 144 = 2
            seat = 1
            subtitle 0 1 = 43
            subtitle 2 1 = 140
            """);
        Rows.promise(13, "the first one and the last one of 12 cuts", """
            write 50-96:a|550-603:b|1150-1205:c
            load = 3
            make cuts 12
            seat = 3
            subtitle 0 1 = 100
            subtitle 1 1 = 600
            subtitle 2 1 = 1200
            seat = 0
            """);
        Rows.promise(13, "the first frame is no cut, however near it is", """
            set LEAST 5 = 25
            set SNAP 12 = 6
            write 0-5:a
            load = 1
            cut 17 = 1
            seat = 1
            subtitle 0 1 = 17
            undo = 3
            cut 11 = 2
            seat = 1
            subtitle 0 1 = 11
            """);
        Rows.promise(13, "the last frame is no cut, however near it is", """
            set SNAP 12 = 6
            write 4900-4999:a
            load = 1
            seat = 0
            cut 4987 = 1
            seat = 1
            subtitle 0 1 = 4987
            """);
        Rows.promise(13, "the latest cut that can be", """
            write 4950-4993:a
            load = 1
            cut 4999 = 1
            seat = 1
            subtitle 0 1 = 4999
            setEnd 0 5000 = 4999
            seat = 1
            subtitle 0 1 = 4999
            """);
        Rows.promise(13, "a cut that leaves as many frames as it needs, or one fewer", """
            write 0-28:a|100-128:b
            load = 2
            cut 25 = 1
            cut 124 = 2
            seat = 1
            subtitle 0 1 = 25
            subtitle 1 1 = 128
            """);
        Rows.promise(13, "a later cut for one that is still shown for fewer frames than it needs", """
            set GAP 0 = 2
            write 0-10:a|10-30:b
            load = 2
            cut 11 = 1
            seat = 1
            subtitle 0 1 = 10
            subtitle 1 1 = 35
            """);
        Rows.promise(13, "the cut is nearest to the end that it has then", """
            write 0-10:a|100-110:b
            load = 2
            cut 9 = 1
            cut 27 = 2
            cut 131 = 3
            seat = 2
            subtitle 0 1 = 27
            subtitle 1 1 = 131
            """);
    }

    private static void seatCounts() {
        Rows.promise(13, "all of 20", """
            make film 20
            seat = 20
            subtitle 0 0 = 0
            subtitle 0 1 = 8
            subtitle 18 0 = 180
            subtitle 18 1 = 188
            subtitle 19 0 = 190
            subtitle 19 1 = 215
            seat = 0
            undo = 3
            undo = 2
            subtitle 19 1 = 195
            """);
        Rows.promise(13, "none of 20 that touch", """
            make film 20
            set LEAST 5 = 25
            seat = 0
            set LEAST 6 = 5
            set GAP 5 = 2
            seat = 1
            subtitle 19 1 = 196
            """);
        Rows.promise(13, "one of which only the start is another one, and one of which only the end", """
            write 40-50:a|52-90:b|200-210:c
            load = 3
            seat = 2
            subtitle 0 0 = 25
            subtitle 0 1 = 50
            subtitle 2 0 = 200
            subtitle 2 1 = 225
            """);
        Rows.promise(13, "one that needs the most frames", """
            set SPEED 5 = 17
            write 0-1:<a*40>
            load = 1
            seat = 1
            subtitle 0 1 = 200
            setEnd 0 199 = 200
            seat = 1
            subtitle 0 1 = 200
            """);
        Rows.promise(13, "one that needs the fewest frames", """
            set LEAST 5 = 25
            set SPEED 40 = 17
            write 0-1:a|100-101:<b*8>|200-201:<c*9>
            load = 3
            seat = 3
            subtitle 0 1 = 5
            subtitle 1 1 = 105
            subtitle 2 1 = 206
            """);
    }

    private static void cut() {
        Rows.promise(14, "the earliest and the latest frame", """
            cut 1 = 1
            cut 4999 = 2
            cutAt 0 = 1
            cutAt 1 = 4999
            """);
        Rows.promise(14, "frames out of range", """
            cut 0 = BAD_VALUE
            cut 5000 = BAD_VALUE
            cut -1 = BAD_VALUE
            cut 5001 = BAD_VALUE
            cut min = BAD_VALUE
            cut max = BAD_VALUE
            cuts = 0
            undo = NONE
            """);
        Rows.promise(14, "there is a cut at this frame", """
            cut 4999 = 1
            cut 4999 = NOT_POSSIBLE
            cut 1 = 2
            cut 1 = NOT_POSSIBLE
            cut 4999 = NOT_POSSIBLE
            cuts = 2
            undo = 1
            uncut 4999 = 0
            cut 4999 = 1
            """);
        Rows.promise(14, "the 12th cut and the 13th", """
            make cuts 11
            cut 50 = 12
            cut 51 = TOO_MANY
            cut 4999 = TOO_MANY
            cuts = 12
            cutAt 0 = 50
            cutAt 11 = 1100
            uncut 50 = 11
            cut 51 = 12
            """);
        Rows.promise(14, "BAD_VALUE, NOT_POSSIBLE, TOO_MANY, in this order", """
            make cuts 12
            cut 0 = BAD_VALUE
            cut 5000 = BAD_VALUE
            cut min = BAD_VALUE
            cut max = BAD_VALUE
            cut 100 = NOT_POSSIBLE
            cut 1200 = NOT_POSSIBLE
            cut 101 = TOO_MANY
            cuts = 12
            """);
        Rows.promise(14, "a cut ahead of all, behind all and between", """
            cut 50 = 1
            cut 60 = 2
            cut 40 = 3
            cut 55 = 4
            cut 39 = 5
            cut 61 = 6
            cutAt 0 = 39
            cutAt 1 = 40
            cutAt 2 = 50
            cutAt 3 = 55
            cutAt 4 = 60
            cutAt 5 = 61
            """);
    }

    private static void uncut() {
        Rows.promise(15, "there is no cut at this frame", """
            uncut 1 = NO_SUCH
            cut 10 = 1
            uncut 9 = NO_SUCH
            uncut 11 = NO_SUCH
            uncut 0 = NO_SUCH
            uncut 5000 = NO_SUCH
            uncut -1 = NO_SUCH
            uncut -6 = NO_SUCH
            uncut min = NO_SUCH
            uncut max = NO_SUCH
            cuts = 1
            undo = 0
            """);
        Rows.promise(15, "a cut that was removed", """
            cut 10 = 1
            uncut 10 = 0
            uncut 10 = NO_SUCH
            cut 10 = 1
            cut 20 = 2
            uncut 20 = 1
            uncut 20 = NO_SUCH
            undo = 3
            uncut 20 = 1
            """);
        Rows.promise(15, "the earliest and the latest frame", """
            cut 1 = 1
            cut 4999 = 2
            uncut 4999 = 1
            uncut 1 = 0
            cuts = 0
            """);
        Rows.promise(15, "the first one and the last one of 12", """
            make cuts 12
            uncut 1200 = 11
            uncut 100 = 10
            cutAt 0 = 200
            cutAt 9 = 1100
            cutAt 10 = NONE
            uncut 1200 = NO_SUCH
            uncut 100 = NO_SUCH
            uncut 600 = 9
            cutAt 3 = 500
            cutAt 4 = 700
            """);
    }

    private static void setArguments() {
        Rows.promise(16, "there is no such setting", """
            set -1 20 = NO_SUCH
            set 6 20 = NO_SUCH
            set min 20 = NO_SUCH
            set max 20 = NO_SUCH
            undo = NONE
            """);
        Rows.promise(16, "NO_SUCH comes ahead of BAD_VALUE", """
            set -1 -1 = NO_SUCH
            set 6 min = NO_SUCH
            set max max = NO_SUCH
            set min 1000 = NO_SUCH
            """);
        Rows.promise(16, "the least and the greatest int", """
            set SPEED min = BAD_VALUE
            set SPEED max = BAD_VALUE
            set GAP min = BAD_VALUE
            set GAP max = BAD_VALUE
            set LEAST min = BAD_VALUE
            set LEAST max = BAD_VALUE
            set MOST min = BAD_VALUE
            set MOST max = BAD_VALUE
            set WIDTH min = BAD_VALUE
            set WIDTH max = BAD_VALUE
            set SNAP min = BAD_VALUE
            set SNAP max = BAD_VALUE
            undo = NONE
            """);
        Rows.promise(16, "the same value, which is recorded", """
            set WIDTH 20 = 20
            undo = 0
            undo = NONE
            """);
    }

    private static void setRanges() {
        Rows.promise(16, "SPEED from 5 to 40", """
            set SPEED 4 = BAD_VALUE
            set SPEED 41 = BAD_VALUE
            setting SPEED = 17
            set SPEED 5 = 17
            set SPEED 40 = 5
            setting SPEED = 40
            """);
        Rows.promise(16, "GAP from 0 to 20", """
            set GAP -1 = BAD_VALUE
            set GAP 21 = BAD_VALUE
            setting GAP = 2
            set GAP 0 = 2
            set GAP 20 = 0
            setting GAP = 20
            """);
        Rows.promise(16, "LEAST from 5 to 50", """
            set LEAST 4 = BAD_VALUE
            set LEAST 51 = BAD_VALUE
            setting LEAST = 25
            set LEAST 5 = 25
            set LEAST 50 = 5
            setting LEAST = 50
            """);
        Rows.promise(16, "MOST from 50 to 250", """
            set MOST 49 = BAD_VALUE
            set MOST 251 = BAD_VALUE
            setting MOST = 150
            set MOST 50 = 150
            set MOST 250 = 50
            setting MOST = 250
            """);
        Rows.promise(16, "WIDTH from 10 to 40", """
            set WIDTH 9 = BAD_VALUE
            set WIDTH 41 = BAD_VALUE
            setting WIDTH = 20
            set WIDTH 10 = 20
            set WIDTH 40 = 10
            setting WIDTH = 40
            """);
        Rows.promise(16, "SNAP from 0 to 12", """
            set SNAP -1 = BAD_VALUE
            set SNAP 13 = BAD_VALUE
            setting SNAP = 6
            set SNAP 0 = 6
            set SNAP 12 = 0
            setting SNAP = 12
            """);
    }
}
