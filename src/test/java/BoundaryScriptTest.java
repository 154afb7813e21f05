/** The boundary cases of the script and of the history, promises 1 to 7, a test for each sentence that names one. */
public final class BoundaryScriptTest {
    public static void main(String[] args) {
        newObject();
        append();
        clearScript();
        numbers();
        texts();
        wholeScripts();
        load();
        loadReasons();
        loadRoom();
        why();
        undo();
        recordings();
        Rows.finish(1, 7);
    }

    private static void newObject() {
        Rows.promise(1, "a film without subtitles", """
            subtitles = 0
            subtitle 0 0 = NO_SUCH
            character 0 0 = NO_SUCH
            line 0 0 = NO_SUCH
            at 0 = NONE
            at 4999 = NONE
            faulty 0 = 0
            faulty 32 = 0
            shown = 0
            meanSpeed = 0.0
            unread 1 = 0
            leastPace = 1
            ifSeated 0 = 0
            ifSeated 1 = 0
            ifSeated 2 = 0
            bestGap = 0
            remove 0 = NO_SUCH
            shift 0 0 = NO_SUCH
            setEnd 0 1 = NO_SUCH
            split 0 = NO_SUCH
            join 0 = NO_SUCH
            """);
        Rows.promise(1, "without cuts", """
            cuts = 0
            cutAt 0 = NONE
            uncut 0 = NO_SUCH
            uncut 1 = NO_SUCH
            uncut 4999 = NO_SUCH
            """);
        Rows.promise(1, "with an empty script", """
            fault = 0
            load = BAD_TEXT
            clearScript = 0
            """);
        Rows.promise(1, "with an empty history", """
            undo = NONE
            undo = NONE
            """);
        Rows.promise(1, "with the first values of the settings", """
            setting SPEED = 17
            setting GAP = 2
            setting LEAST = 25
            setting MOST = 150
            setting WIDTH = 20
            setting SNAP = 6
            """);
        Rows.promise(1, "without a report", """
            why 0 = NONE
            why 1 = NONE
            why 2 = NONE
            """);
        Rows.promise(1, "all 512 calls are answered", """
            set SPEED 40 = 17
            make cuts 4
            repeat 501 cutAt 3 = 400
            undo = 3
            undo = 2
            undo = 1
            undo = 0
            undo = NONE
            cuts = 0
            """);
    }

    private static void append() {
        Rows.promise(2, "the least character", "append 32 = 1");
        Rows.promise(2, "the greatest character", "append 126 = 1");
        Rows.promise(2, "characters out of range", """
            append 31 = BAD_VALUE
            append 127 = BAD_VALUE
            append 128 = BAD_VALUE
            append 0 = BAD_VALUE
            append -1 = BAD_VALUE
            append min = BAD_VALUE
            append max = BAD_VALUE
            clearScript = 0
            """);
        Rows.promise(2, "numbers that a char would wrap around to a letter", """
            append 65633 = BAD_VALUE
            append -65439 = BAD_VALUE
            append 353 = BAD_VALUE
            clearScript = 0
            """);
        Rows.promise(2, "the 80th character is the last one", """
            write <a*79>
            append 97 = 80
            append 97 = TOO_MANY
            append 32 = TOO_MANY
            append 126 = TOO_MANY
            clearScript = 80
            """);
        Rows.promise(2, "BAD_VALUE comes ahead of TOO_MANY", """
            write <a*80>
            append 31 = BAD_VALUE
            append 127 = BAD_VALUE
            append min = BAD_VALUE
            append max = BAD_VALUE
            clearScript = 80
            """);
        Rows.promise(2, "a full script that is whole stays whole", """
            write 0-1:<a*40>|2-3:<b*31>
            append 97 = TOO_MANY
            append 10 = BAD_VALUE
            fault = NONE
            load = 2
            subtitle 1 2 = 31
            """);
        Rows.promise(2, "append is no action", """
            set SPEED 18 = 17
            append 97 = 1
            undo = 0
            append 97 = 2
            undo = NONE
            """);
    }

    private static void clearScript() {
        Rows.promise(3, "an empty script", """
            clearScript = 0
            clearScript = 0
            """);
        Rows.promise(3, "a script of one character", """
            append 97 = 1
            clearScript = 1
            clearScript = 0
            fault = 0
            """);
        Rows.promise(3, "a full script, behind which there is room for 80 characters again", """
            write <a*80>
            clearScript = 80
            write <b*79>
            append 98 = 80
            append 98 = TOO_MANY
            clearScript = 80
            """);
        Rows.promise(3, "clearScript is no action and leaves film, report and history", """
            write 0-5:a|9-9:b
            load = 1
            clearScript = 11
            subtitles = 1
            why 0 = 1
            why 2 = 6
            undo = 0
            clearScript = 0
            undo = NONE
            """);
    }

    private static void numbers() {
        Rows.promise(4, "a number is at least 0", """
            write 0-0:a
            fault = NONE
            write -1-0:a
            fault = 0
            write 0--1:a
            fault = 2
            """);
        Rows.promise(4, "a number is at most 5000", """
            write 5000-4999:a
            fault = NONE
            write 5001-1:a
            fault = 3
            write 1-5000:a
            fault = NONE
            write 1-5001:a
            fault = 5
            write 1-5009:a
            fault = 5
            write 1-5010:a
            fault = 5
            write 1-5100:a
            fault = 5
            write 6000-1:a
            fault = 3
            write 1-9999:a
            fault = 5
            write 999-500:a
            fault = NONE
            """);
        Rows.promise(4, "a number with a digit too many", """
            write 10000-1:a
            fault = 4
            write 50000-1:a
            fault = 4
            write 1-49990:a
            fault = 6
            write 501-50000:a
            fault = 8
            """);
        Rows.promise(4, "numbers that an int would wrap around", """
            write 4294967296-4294967297:a
            fault = 4
            write 1-4294967298:a
            fault = 6
            write 18446744073709551616-1:a
            fault = 4
            write <1*80>
            fault = 4
            write <9*80>
            fault = 3
            write <5*80>
            fault = 3
            """);
        Rows.promise(4, "no leading zeros", """
            write 00-1:a
            fault = 1
            write 01-2:a
            fault = 1
            write 1-00:a
            fault = 3
            write 1-02:a
            fault = 3
            write 1-2:a|09-9:a
            fault = 7
            write 0000000000
            fault = 1
            write 10-1000:a
            fault = NONE
            write 100-2000:a
            fault = NONE
            """);
        Rows.promise(4, "a number has a digit", """
            write -5:a
            fault = 0
            write :a
            fault = 0
            write |
            fault = 0
            write a
            fault = 0
            write 1-:a
            fault = 2
            write 1-a
            fault = 2
            write 1:a
            fault = 1
            write 1-2-3
            fault = 3
            """);
        Rows.promise(4, "the characters next to the digits are none", """
            write /-1:a
            fault = 0
            write 1/
            fault = 1
            write 1-/
            fault = 2
            write 1-:
            fault = 2
            write 1-1/
            fault = 3
            write 0-9:a
            fault = NONE
            write 9-0:a
            fault = NONE
            """);
    }

    private static void texts() {
        Rows.promise(4, "a text has 1 character at least", """
            write 0-1:a
            fault = NONE
            write 0-1:
            fault = 4
            write 0-1:|
            fault = 4
            write 0-1:a|2-3:|
            fault = 10
            """);
        Rows.promise(4, "a text has 40 characters at most", """
            write 0-1:<a*40>
            fault = NONE
            write 0-1:<a*41>
            fault = 44
            write 0-1:<a*42>
            fault = 44
            write 0-1:<a*40>|
            fault = 45
            write 0-1:<a*40>|2-3:<b*31>
            fault = NONE
            write 5000-5000:<,*40>
            fault = NONE
            write 5000-5000:<.*41>
            fault = 50
            """);
        Rows.promise(4, "a text does not begin with a blank", """
            write 0-1:_a
            fault = 4
            write 0-1:_
            fault = 4
            write 0-1:a|2-3:_a
            fault = 10
            """);
        Rows.promise(4, "a text does not end with a blank", """
            write 0-1:a_
            fault = 6
            write 0-1:a_|2-3:b
            fault = 6
            write 0-1:<a*38>_
            fault = 43
            write 0-1:<a*38>_|
            fault = 43
            write 0-1:<a*38>_b
            fault = NONE
            write 0-1:<a*38>_bc
            fault = 44
            """);
        Rows.promise(4, "no text goes on behind a blank as the 40th character, nor has a 41st", """
            write 0-1:<a*39>_
            fault = 43
            write 0-1:<a*39>_b
            fault = 43
            write 0-1:<a*40>_
            fault = 44
            """);
        Rows.promise(4, "no two blanks follow one another", """
            write 0-1:a__b
            fault = 6
            write 0-1:a__
            fault = 6
            write 0-1:a_b_c
            fault = NONE
            write 0-1:a_b__c
            fault = 8
            write 0-1:,_._,
            fault = NONE
            """);
        Rows.promise(4, "small letters from a to z, commas and full stops", """
            write 0-1:az.,
            fault = NONE
            write 0-1:za,.
            fault = NONE
            write 0-1:,
            fault = NONE
            write 0-1:.
            fault = NONE
            write 0-1:`
            fault = 4
            write 0-1:{
            fault = 4
            write 0-1:a`
            fault = 5
            write 0-1:a{
            fault = 5
            write 0-1:a}
            fault = 5
            write 0-1:a~
            fault = 5
            write 0-1:a+
            fault = 5
            write 0-1:a-
            fault = 5
            write 0-1:a/
            fault = 5
            write 0-1:a!
            fault = 5
            write 0-1:A
            fault = 4
            write 0-1:aZ
            fault = 5
            write 0-1:a0
            fault = 5
            write 0-1:a:
            fault = 5
            """);
    }

    private static void wholeScripts() {
        Rows.promise(4, "an empty script is not complete", "fault = 0");
        Rows.promise(4, "a script that is not complete yet", """
            write 1
            fault = 1
            more 0
            fault = 2
            more -
            fault = 3
            more 5
            fault = 4
            more :
            fault = 5
            more a
            fault = NONE
            more _
            fault = 7
            more b
            fault = NONE
            more |
            fault = 9
            more 9
            fault = 10
            more -9
            fault = 12
            more :b
            fault = NONE
            """);
        Rows.promise(4, "one fault stays whatever follows", """
            write 0-1:A|00-2:b
            fault = 4
            more _|||
            fault = 4
            """);
        Rows.promise(4, "whether starts and ends are possible does not matter", """
            write 9-9:a|9-1:b|0-5000:c|0-5000:d|5000-0:e
            fault = NONE
            """);
        Rows.promise(4, "80 characters without a fault", """
            write 0-1:<a*40>|2-3:<b*31>
            fault = NONE
            clearScript = 80
            """);
        Rows.promise(4, "80 characters with which only longer scripts begin", """
            write 0-1:<a*40>|2-3:<b*30>_
            fault = 80
            write 0-1:<a*40>|2-3:<b*30>|
            fault = 80
            write 0-1:<a*40>|2-3:<b*29>|5
            fault = 80
            write 0-1:<a*40>|2-3:<b*27>|5-6
            fault = 80
            write 0-1:<a*40>|2-3:<b*26>|5-6:
            fault = 80
            load = BAD_TEXT
            clearScript = 80
            """);
        Rows.promise(4, "a fault at the last one of 80 characters", """
            write 0-1:<a*40>|2-3:<b*30>A
            fault = 79
            write 0-1:<a*40>|2-3:<b*29>||
            fault = 79
            write 0-1:<a*40>|2-3:<b*26>|5001
            fault = 79
            """);
        Rows.promise(4, "as many entries as the script has room for", """
            write 0-0:a|0-0:a|0-0:a|0-0:a|0-0:a|0-0:a|0-0:a|0-0:a|0-0:a|0-0:a|0-0:a|0-0:a|0-0:abcd
            fault = NONE
            clearScript = 80
            """);
    }

    private static void load() {
        Rows.promise(5, "a script with a fault is refused, even the empty one", """
            load = BAD_TEXT
            write 0-5:a|
            load = BAD_TEXT
            write 0-5:a|6-7:B
            load = BAD_TEXT
            write 0-5:a|6-5001:b
            load = BAD_TEXT
            write _
            load = BAD_TEXT
            subtitles = 0
            undo = NONE
            why 0 = NONE
            """);
        Rows.promise(5, "a refused load leaves the report and the history", """
            write 0-5:a|8-8:b
            load = 1
            more _
            load = BAD_TEXT
            why 0 = 1
            why 1 = 1
            why 2 = 6
            undo = 0
            """);
        Rows.promise(5, "the earliest start and the latest end", """
            write 0-5000:a
            load = 1
            subtitle 0 0 = 0
            subtitle 0 1 = 5000
            """);
        Rows.promise(5, "one frame at either end of the time", """
            write 4999-5000:b|0-1:a
            load = 2
            subtitle 0 0 = 0
            subtitle 0 1 = 1
            subtitle 1 0 = 4999
            subtitle 1 1 = 5000
            """);
        Rows.promise(5, "texts of 1 and of 40 characters", """
            write 0-5:a|10-20:<b*38>_c
            load = 2
            subtitle 0 2 = 1
            subtitle 1 2 = 40
            character 1 37 = 98
            character 1 38 = 32
            character 1 39 = 99
            character 1 40 = NONE
            """);
        Rows.promise(5, "a shorter text in the place of a longer one", """
            write 0-5:<a*40>
            load = 1
            remove 0 = 0
            write 0-5:b
            load = 1
            subtitle 0 2 = 1
            character 0 0 = 98
            character 0 1 = NONE
            """);
        Rows.promise(5, "the script does not change", """
            write 0-5:a|7-9:b
            load = 2
            load = 0
            why 0 = 0
            why 1 = 2
            fault = NONE
            clearScript = 11
            """);
        Rows.promise(5, "in the order of the script, seated in the order of the starts", """
            write 20-25:c|30-35:d|0-5:a|10-15:b
            load = 4
            character 0 0 = 97
            character 1 0 = 98
            character 2 0 = 99
            character 3 0 = 100
            """);
    }

    private static void loadReasons() {
        Rows.promise(5, "reason 1: the start is the end, or one above it", """
            write 0-0:a
            load = 0
            why 1 = 1
            write 5000-5000:a
            load = 0
            why 1 = 1
            write 1-0:a
            load = 0
            why 1 = 1
            write 5000-4999:a
            load = 0
            why 1 = 1
            write 5000-0:a
            load = 0
            why 1 = 1
            subtitles = 0
            """);
        Rows.promise(5, "subtitles that touch", """
            write 10-20:a|20-30:b|5-10:c
            load = 3
            why 1 = NONE
            """);
        Rows.promise(5, "reason 2: one frame is shown in both", """
            write 10-20:a
            load = 1
            write 19-30:b
            load = 0
            why 1 = 2
            write 5-11:b
            load = 0
            why 1 = 2
            write 19-20:b
            load = 0
            why 1 = 2
            write 10-11:b
            load = 0
            why 1 = 2
            subtitles = 1
            """);
        Rows.promise(5, "reason 2: around another one, inside it, the same frames", """
            write 10-20:a
            load = 1
            write 9-21:b
            load = 0
            why 1 = 2
            write 12-18:b
            load = 0
            why 1 = 2
            write 10-20:b
            load = 0
            why 1 = 2
            write 0-5000:b
            load = 0
            why 1 = 2
            """);
        Rows.promise(5, "reason 2: against one from the same script", """
            write 0-10:a|9-12:b
            load = 1
            why 0 = 1
            why 1 = 2
            why 2 = 7
            """);
        Rows.promise(5, "up to the first one that cannot be added", """
            write 0-5:a|4-6:b|10-20:c
            load = 1
            subtitles = 1
            at 10 = NONE
            write 30-30:x|40-50:y
            load = 0
            subtitles = 1
            """);
        Rows.promise(5, "the first of the reasons counts: 1 ahead of 2", """
            write 10-20:a
            load = 1
            write 15-15:b
            load = 0
            why 1 = 1
            write 18-12:b
            load = 0
            why 1 = 1
            """);
        Rows.promise(5, "the first of the reasons counts: 1 and 2 ahead of 3", """
            make film 20
            write 500-500:x
            load = 0
            why 1 = 1
            write 192-192:x
            load = 0
            why 1 = 1
            write 194-196:x
            load = 0
            why 1 = 2
            write 195-196:x
            load = 0
            why 1 = 3
            """);
    }

    private static void loadRoom() {
        Rows.promise(5, "the 20th subtitle is added", """
            make film 19
            write 500-501:x
            load = 1
            subtitles = 20
            why 0 = NONE
            why 1 = NONE
            why 2 = NONE
            subtitle 19 0 = 500
            """);
        Rows.promise(5, "reason 3: the 21st one is not added", """
            make film 20
            subtitles = 20
            write 4999-5000:x
            load = 0
            subtitles = 20
            why 0 = 0
            why 1 = 3
            why 2 = 0
            """);
        Rows.promise(5, "the 20th is added and the 21st is not, in one script", """
            make film 19
            write 5-10:x|500-501:y|502-503:z
            load = 1
            subtitles = 20
            character 1 0 = 120
            why 0 = 1
            why 1 = 3
            why 2 = 7
            """);
        Rows.promise(5, "the 20th is the first one in time", """
            make film 19
            shift 0 10 = 19
            write 0-1:x
            load = 1
            subtitle 0 1 = 1
            subtitle 19 0 = 190
            character 19 0 = 115
            """);
        Rows.promise(5, "a load that adds nothing is recorded", """
            write 5-5:a
            load = 0
            undo = 0
            undo = NONE
            why 1 = 1
            """);
        Rows.promise(5, "a load of several subtitles is recorded once", """
            write 0-1:a|2-3:b|4-5:c
            load = 3
            undo = 0
            subtitles = 0
            undo = NONE
            """);
    }

    private static void why() {
        Rows.promise(6, "what out of range", """
            why -1 = BAD_VALUE
            why 3 = BAD_VALUE
            why min = BAD_VALUE
            why max = BAD_VALUE
            write 0-1:a|2-2:b
            load = 1
            why -1 = BAD_VALUE
            why 3 = BAD_VALUE
            why min = BAD_VALUE
            why max = BAD_VALUE
            """);
        Rows.promise(6, "there was no such call", """
            why 0 = NONE
            why 1 = NONE
            why 2 = NONE
            load = BAD_TEXT
            why 0 = NONE
            why 1 = NONE
            why 2 = NONE
            """);
        Rows.promise(6, "all subtitles were added", """
            write 0-1:a|2-2:b
            load = 1
            why 0 = 1
            write 2-3:b
            load = 1
            why 0 = NONE
            why 1 = NONE
            why 2 = NONE
            """);
        Rows.promise(6, "the first entry could not be added", """
            write 1-1:a
            load = 0
            why 0 = 0
            why 1 = 1
            why 2 = 0
            """);
        Rows.promise(6, "the least and the greatest reason", """
            make film 20
            write 900-900:a
            load = 0
            why 1 = 1
            write 0-900:a
            load = 0
            why 1 = 2
            write 899-900:a
            load = 0
            why 0 = 0
            why 1 = 3
            why 2 = 0
            """);
        Rows.promise(6, "the latest entry that 80 characters have room for", """
            write 0-1:a|1-2:a|2-3:a|3-4:a|4-5:a|5-6:a|6-7:a|7-8:a|8-9:a|9-10:a|10-11:a|0-1:a
            load = 11
            why 0 = 11
            why 1 = 2
            why 2 = 69
            """);
        Rows.promise(6, "the latest place that an entry can have", """
            write 0-1:<a*36>|2-3:<b*29>|0-0:c
            clearScript = 80
            write 0-1:<a*36>|2-3:<b*29>|0-0:c
            load = 2
            why 0 = 2
            why 1 = 1
            why 2 = 75
            """);
        Rows.promise(6, "the script as it was then", """
            write 0-1:a|2-2:b
            load = 1
            clearScript = 11
            why 2 = 6
            write 0-1:abcdef|3-3:b
            why 2 = 6
            load = 0
            why 0 = 0
            why 1 = 2
            why 2 = 0
            """);
        Rows.promise(6, "a load with an error code and an undo leave the report", """
            write 0-1:a|2-2:b
            load = 1
            more |
            load = BAD_TEXT
            why 0 = 1
            why 1 = 1
            why 2 = 6
            undo = 0
            undo = NONE
            why 0 = 1
            why 1 = 1
            why 2 = 6
            """);
    }

    private static void undo() {
        Rows.promise(7, "the history is empty", """
            undo = NONE
            cut 5 = 1
            undo = 0
            undo = NONE
            undo = NONE
            cuts = 0
            """);
        Rows.promise(7, "four states", """
            set SPEED 21 = 17
            set SPEED 22 = 21
            set SPEED 23 = 22
            set SPEED 24 = 23
            undo = 3
            setting SPEED = 23
            undo = 2
            setting SPEED = 22
            undo = 1
            setting SPEED = 21
            undo = 0
            setting SPEED = 17
            undo = NONE
            setting SPEED = 17
            """);
        Rows.promise(7, "a fifth state drops the oldest one", """
            set SPEED 21 = 17
            set SPEED 22 = 21
            set SPEED 23 = 22
            set SPEED 24 = 23
            set SPEED 25 = 24
            undo = 3
            undo = 2
            undo = 1
            undo = 0
            setting SPEED = 21
            undo = NONE
            setting SPEED = 21
            """);
        Rows.promise(7, "nine states and more", """
            set SPEED 21 = 17
            set SPEED 22 = 21
            set SPEED 23 = 22
            set SPEED 24 = 23
            set SPEED 25 = 24
            set SPEED 26 = 25
            set SPEED 27 = 26
            set SPEED 28 = 27
            set SPEED 29 = 28
            undo = 3
            setting SPEED = 28
            undo = 2
            setting SPEED = 27
            undo = 1
            setting SPEED = 26
            undo = 0
            setting SPEED = 25
            undo = NONE
            """);
        Rows.promise(7, "there is room again for a state that was undone", """
            make cuts 4
            undo = 3
            cut 7 = 4
            undo = 3
            undo = 2
            cut 8 = 3
            cut 9 = 4
            cut 10 = 5
            undo = 3
            undo = 2
            undo = 1
            cuts = 2
            undo = 0
            cuts = 1
            undo = NONE
            """);
        Rows.promise(7, "undo is not recorded", """
            cut 5 = 1
            cut 6 = 2
            undo = 1
            undo = 0
            undo = NONE
            cuts = 0
            """);
        Rows.promise(7, "subtitles, cuts and settings of a full film come back", """
            make film 20
            make cuts 12
            set SNAP 12 = 6
            remove 19 = 19
            uncut 1200 = 11
            set SNAP 0 = 12
            undo = 3
            setting SNAP = 12
            undo = 2
            cutAt 11 = 1200
            undo = 1
            subtitles = 20
            character 19 0 = 116
            undo = 0
            setting SNAP = 6
            cuts = 12
            """);
        Rows.promise(7, "what was there before a second load comes back", """
            write 10-20:ab
            load = 1
            cut 7 = 1
            set GAP 9 = 2
            write 30-40:c|50-60:d
            load = 2
            subtitles = 3
            undo = 3
            subtitles = 1
            subtitle 0 0 = 10
            character 0 1 = 98
            cutAt 0 = 7
            setting GAP = 9
            """);
        Rows.promise(7, "a film comes back empty", """
            write 0-1:a|2-3:b
            load = 2
            cut 5 = 1
            undo = 1
            undo = 0
            subtitles = 0
            cuts = 0
            subtitle 0 0 = NO_SUCH
            """);
        Rows.promise(7, "script and report stay as they are", """
            write 0-1:a|2-2:b
            load = 1
            write 7-8:cd
            undo = 0
            why 0 = 1
            why 1 = 1
            why 2 = 6
            fault = NONE
            load = 1
            subtitle 0 0 = 7
            undo = 0
            why 0 = NONE
            clearScript = 6
            """);
    }

    private static void recordings() {
        Rows.promise(7, "each action is undone", """
            write 0-50:ab cd|60-90:x
            load = 2
            remove 1 = 1
            undo = 1
            subtitles = 2
            shift 1 5 = 1
            undo = 1
            subtitle 1 0 = 60
            setEnd 0 51 = 50
            undo = 1
            subtitle 0 1 = 50
            split 0 = 2
            undo = 1
            subtitle 0 2 = 5
            join 0 = 7
            undo = 1
            subtitle 0 1 = 50
            character 1 0 = 120
            cut 51 = 1
            seat = 1
            undo = 2
            subtitle 0 1 = 50
            uncut 51 = 0
            undo = 2
            cutAt 0 = 51
            undo = 1
            cuts = 0
            set GAP 20 = 2
            undo = 1
            setting GAP = 2
            undo = 0
            subtitles = 0
            """);
        Rows.promise(7, "an action that changes nothing is recorded", """
            set SPEED 17 = 17
            undo = 0
            seat = 0
            undo = 0
            write 0-50:a
            load = 1
            load = 0
            shift 0 0 = 1
            setEnd 0 50 = 50
            undo = 3
            undo = 2
            undo = 1
            undo = 0
            undo = NONE
            """);
        Rows.promise(7, "five actions that change nothing drop the state with the change", """
            cut 5 = 1
            seat = 0
            seat = 0
            seat = 0
            seat = 0
            undo = 3
            undo = 2
            undo = 1
            undo = 0
            undo = NONE
            cuts = 1
            """);
        Rows.promise(7, "an action with an error code is not recorded", """
            write 0-50:a|60-80:b
            load = 2
            remove 2 = NO_SUCH
            shift 2 0 = NO_SUCH
            shift 0 1000 = BAD_VALUE
            shift 0 -1 = NOT_POSSIBLE
            setEnd 2 9 = NO_SUCH
            setEnd 0 5001 = BAD_VALUE
            setEnd 0 0 = NOT_POSSIBLE
            split 2 = NO_SUCH
            split 0 = NOT_POSSIBLE
            join 1 = NO_SUCH
            cut 0 = BAD_VALUE
            uncut 1 = NO_SUCH
            set 6 1 = NO_SUCH
            set SPEED 4 = BAD_VALUE
            append 31 = BAD_VALUE
            clearScript = 14
            load = BAD_TEXT
            undo = 0
            undo = NONE
            """);
        Rows.promise(7, "an action without room is not recorded", """
            make film 20
            make cuts 12
            cut 100 = NOT_POSSIBLE
            cut 101 = TOO_MANY
            undo = 3
            cuts = 11
            """);
        Rows.promise(7, "the questions are not recorded", """
            cut 5 = 1
            bestGap = 0
            ifSeated 0 = 0
            leastPace = 1
            at 0 = NONE
            cutAt 0 = 5
            undo = 0
            undo = NONE
            """);
    }
}
