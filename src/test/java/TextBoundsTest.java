/**
 * Sections 5 and 6 and promises 2 to 7: what may stand in texts, each bound at its last value that is allowed
 * and at the first one that is not. A text with an error changes nothing but the buffer and the error.
 */
public final class TextBoundsTest {
    private static final int NONE = RingFreeOrder.NONE;
    private static final String GOOD = "0@-1";
    private static final String TWO = "task a 1;task b 1;";
    private TextBoundsTest() {
    }

    public static void main(String[] args) {
        appendBounds();
        appendedBytes();
        truncateBounds();
        oneOrMoreStatements();
        tooEarly();
        semicolonsBetween();
        firstIsATask();
        modeAndJoinOnce();
        holdFromThereOn();
        nameLengths();
        nameLetters();
        namesNewAndTold();
        maximalRuns();
        digits();
        spaces();
        otherBytes();
        wrongPlaces();
        ranges();
        refusedArrows();
        tooManyTasks();
        tooManyArrows();
        smallerNumberCounts();
        firstErrorEnds();
        newTasksAtTheEnd();
        newObjectAsByText();
        textsOf900Bytes();
        beginsAnew();
        errorsOfTextsChangeNothing();
        noneTo30Orders();
        eachOrderWithSemicolon();
        orderWords();
        orderNames();
        orderRanges();
        orderTokens();
        errorsOfOrdersChangeNothing();
        refusedOrderEnds();
        refusedSwaps();
        refusedCuts();
        refusedArrowOrders();
        ordersAreOneChange();
        latestError();
        Check.end("TextBoundsTest");
    }

    /** Tasks b a c d e without arrows, two changes, an output text and something saved. */
    private static RingFreeOrder used() {
        RingFreeOrder x = Check.of("task a 1;task b 2;task c 3;task d 4;task e 5;mode 1;arrow b a");
        x.save();
        x.writeArrows(1);
        x.cut(0);
        x.setHours(4, 9);
        return x;
    }

    /** Each description is read by an object that has been used; its error is to be that of the second text. */
    private static void texts(String... cases) {
        for (int k = 0; k < cases.length; k += 2) {
            String text = cases[k];
            String due = cases[k + 1];
            RingFreeOrder x = used();
            Check.same("5: text '" + text + "'", Check.errorOfText(x, text), due);
            Check.same("4: empties the buffer: " + text, Check.bufferLength(x), 0);
            if (!due.equals(GOOD)) {
                Check.same("4: changes nothing: " + text, Check.rest(x), Check.rest(used()));
            }
        }
    }

    private static void orders(String... cases) {
        for (int k = 0; k < cases.length; k += 2) {
            String text = cases[k];
            String due = cases[k + 1];
            RingFreeOrder x = used();
            Check.same("6: orders '" + text + "'", Check.errorOfOrders(x, text), due);
            Check.same("5: empties the buffer: " + text, Check.bufferLength(x), 0);
            Check.same("5: a change or none: " + text, x.size(8), due.equals(GOOD) ? 3 : 2);
            if (!due.equals(GOOD)) {
                Check.same("5: changes nothing: " + text, Check.rest(x), Check.rest(used()));
            }
        }
    }

    // ---- promises 2 and 3 ----

    private static RingFreeOrder withBuffer(int length) {
        RingFreeOrder x = used();
        Check.give(x, "b".repeat(length));
        return x;
    }

    /** "Throws IllegalStateException if it would exceed 900" */
    private static void appendBounds() {
        Check.same("2: 0 and 20", withBuffer(0).append(1, 2, 3, 4, 5), 20);
        Check.same("2: 879 and 20", withBuffer(879).append(1, 2, 3, 4, 5), 899);
        Check.same("2: 880 and 20", withBuffer(880).append(1, 2, 3, 4, 5), 900);
        for (int length : new int[] {881, 882, 890, 899, 900}) {
            Check.refused("2: " + length + " and 20", () -> withBuffer(length), Check.STATE, x -> x.append(1, 2, 3, 4, 5));
        }
    }

    /** "the 4 bytes of each number, the most significant byte first" */
    private static void appendedBytes() {
        int[] number = {0x7461736b, 0x20616263, 0x64656620, 0x20202020, 0x20202031};
        RingFreeOrder x = new RingFreeOrder();
        x.append(number[0], number[1], number[2], number[3], number[4]);
        Check.same("2: all 20 in a row", x.readText(), 1);
        Check.same("2: letters", Check.order(x), "abcdef");
        Check.same("2: the last byte", x.task(0, 0), 1);
        for (int k = 0; k < 20; k++) {
            int[] spoiled = number.clone();
            // 0xff fits nowhere, so it shows where it came to stand
            spoiled[k / 4] |= 0xff << 24 - 8 * (k % 4);
            RingFreeOrder y = new RingFreeOrder();
            y.append(spoiled[0], spoiled[1], spoiled[2], spoiled[3], spoiled[4]);
            Check.argument("2: byte " + k, () -> y.readText());
            // within the first word it is this word that cannot stand there
            Check.same("2: place of byte " + k, y.errorPosition(), k < 4 ? 0 : k);
        }
    }

    /** "Throws IllegalArgumentException if it is negative or greater than the length now" */
    private static void truncateBounds() {
        for (int length : new int[] {0, 1, 20, 880, 900}) {
            Check.same("3: the length itself", withBuffer(length).truncate(length), length);
            Check.same("3: nothing", withBuffer(length).truncate(0), 0);
            for (int wrong : new int[] {-1, length + 1, Integer.MIN_VALUE, Integer.MAX_VALUE}) {
                Check.refused("3: " + wrong + " of " + length, () -> withBuffer(length), Check.ARGUMENT, x -> x.truncate(wrong));
            }
        }
        RingFreeOrder x = withBuffer(7);
        Check.same("3: one less", x.truncate(6), 6);
        Check.argument("3: not back again", () -> x.truncate(7));
        Check.same("3: what is left", x.make(1), 5);
        Check.same("3: all six letters", x.task(5, 7), 6);
    }

    // ---- section 5 ----

    /** "A description is a list of one or more statements" */
    private static void oneOrMoreStatements() {
        texts(
                "", "1@0",
                " ", "1@1",
                "    ", "1@4",
                "task a 1", GOOD,
                TWO + "task c 1", GOOD);
    }

    /** "or the text ends too early (position: its length)" */
    private static void tooEarly() {
        String whole = "task ab 1;arrow ab b";
        String[] due = {"1@0", "1@0", "1@0", "1@0", "1@4", "1@5", "1@6", "1@7", "1@8", GOOD, "1@10", "1@10", "1@10", "1@10", "1@10",
            "1@15", "1@16", "3@16", "1@18", "1@19", "3@19"};
        for (int length = 0; length <= whole.length(); length++) {
            texts(whole.substring(0, length), due[length]);
        }
        texts(
                "task", "1@4",
                "task  ", "1@6",
                "task a  ", "1@8",
                TWO + "arrow", "1@23",
                TWO + "arrow a", "1@25",
                TWO + "arrow a  ", "1@27",
                TWO + "mode", "1@22",
                TWO + "mode ", "1@23",
                TWO + "join", "1@22",
                TWO + "join  ", "1@24");
    }

    /** "separated by semicolons" */
    private static void semicolonsBetween() {
        texts(
                "task a 1;", "1@9",
                "task a 1;  ", "1@11",
                "task a 1;;", "1@9",
                "task a 1; ;task b 1", "1@10",
                ";", "1@0",
                ";task a 1", "1@0",
                "  ;task a 1", "1@2",
                "task a 1 task b 1", "1@9",
                "task a 1task b 1", "1@8",
                "task a 1,task b 1", "1@8",
                "task;a 1", "1@4",
                "task a;1", "1@6",
                TWO + "arrow a;b", "1@25",
                "task a 1 ; task b 1", GOOD);
    }

    /** "the first one is a task" */
    private static void firstIsATask() {
        texts(
                "arrow a b", "1@0",
                "mode 1", "1@0",
                "join 1", "1@0",
                "mode 3;task a 1", "1@0",
                "  join 0;task a 1", "1@2",
                "refresh", "1@0",
                "a", "1@0",
                "task a 1;mode 1", GOOD,
                "  task a 1", GOOD);
    }

    /** "these two at most once each"; "a second mode or join (position of its first letter)", "ahead of all that follows" */
    private static void modeAndJoinOnce() {
        String once = "task a 1;mode 1;join 1";
        texts(
                once, GOOD,
                once + ";mode 1", "3@23",
                once + ";join 1", "3@23",
                once + ";  mode 2", "3@25",
                once + ";mode", "3@23",
                once + ";mode 9", "3@23",
                once + ";mode x", "3@23",
                once + ";join9999", "3@23",
                once + ";join;", "3@23",
                once + ";modes 1", "1@23",
                once + ";joi 1", "1@23",
                "task a 1;mode 0;mode 0", "3@16",
                "task a 1;join 0;join 0", "3@16",
                "task a 1;join 0;mode 0", GOOD);
    }

    /** "they hold from there on"; MODE and JOIN are 0 at first */
    private static void holdFromThereOn() {
        RingFreeOrder x = used();
        Check.give(x, "task a 1");
        x.readText();
        Check.same("5: MODE at first", x.size(3), 0);
        Check.same("5: JOIN at first", x.size(4), 0);
        String ring = ";arrow a b;arrow b a";
        texts(
                TWO + "join 1" + ring, GOOD,
                TWO + "join 0" + ring, "3@43",
                TWO + "arrow a b;join 1;arrow b a", GOOD,
                TWO + "arrow a b;arrow b a;join 1", "3@36");
        // arrow d a by MODE 0 leaves b and c at their places, by MODE 1 all come ahead of a
        String four = TWO + "task c 1;task d 1";
        Check.same("5: MODE told behind the arrow", Check.order(Check.of(four + ";arrow d a;mode 1")), "d b c a");
        Check.same("5: MODE told ahead of it", Check.order(Check.of(four + ";mode 1;arrow d a")), "b c d a");
        Check.same("5: MODE 2 told ahead of it", Check.order(Check.of(four + ";mode 2;arrow d a")), "d a b c");
    }

    /** "A NAME is a word of 1 to 6 letters" */
    private static void nameLengths() {
        texts(
                "task a 1", GOOD,
                "task abcdef 1", GOOD,
                "task abcdefg 1", "1@5",
                "task  abcdefgh1", "1@6",
                "task 1", "1@5",
                "task ;", "1@5",
                "task abcdef 1;arrow abcdefg abcdef", "1@20",
                "task abcdef 1;arrow abcdef abcdefg", "1@27",
                "task abcdef 1;arrow abcdef abcdef", "3@27",
                "task abcdef 1;task b 1;arrow abcdef b;arrow b b", "3@46");
        RingFreeOrder x = Check.of("task abcdef 1;task fedcba 1;arrow fedcba abcdef");
        Check.same("5: six letters each", Check.order(x), "fedcba abcdef");
    }

    /** "Words are maximal runs of lower-case letters" */
    private static void nameLetters() {
        texts(
                "task az 1", GOOD,
                "task ` 1", "1@5",
                "task { 1", "1@5",
                "task a` 1", "1@6",
                "task z{ 1", "1@6",
                "task A 1", "1@5",
                "task Z 1", "1@5",
                "task aB 1", "1@6",
                "task a_b 1", "1@6",
                "task \u00e1 1", "1@5",
                "task \u00fa 1", "1@5",
                "TASK a 1", "1@0",
                "task a 1;Mode 1", "1@9");
    }

    /** "behind task a new one, otherwise that of a task that was told ahead" */
    private static void namesNewAndTold() {
        texts(
                "task a 1;task a 1", "3@14",
                "task a 1;task a", "3@14",
                "task a 1;task a 0", "3@14",
                "task a 1;task  a;", "3@15",
                "task a 1;task aa 1", GOOD,
                "task aa 1;task a 1", GOOD,
                "task a 1;task b 1;task a 1", "3@23",
                "task a 1;arrow b a", "3@15",
                "task a 1;arrow b", "3@15",
                "task a 1;arrow a b", "3@17",
                "task a 1;arrow a b;task b 1", "3@17",
                "task a 1;arrow aa a", "3@15",
                "task ab 1;arrow a ab", "3@16",
                "task ab 1;arrow ab b", "3@19",
                "task ab 1;task ba 1;arrow ba ab", GOOD,
                "task task 1;task arrow 1;task mode 1;task join 1;arrow join mode", GOOD);
    }

    /** "Words are maximal runs", "numbers maximal runs of digits" */
    private static void maximalRuns() {
        texts(
                "taska 1", "1@0",
                "taskb b 1", "1@0",
                "tas k a 1", "1@0",
                "ta", "1@0",
                TWO + "arrowa b", "1@18",
                TWO + "arrow ab", "3@24",
                TWO + "modemode 1", "1@18",
                "task a 1 1", "1@9",
                "task a 0 1", "2@7",
                "task a 11", "2@7",
                "task a 1 9;", "1@9",
                TWO + "mode 0 1", "1@25");
    }

    /** "with at most 3 digits (zeros ahead count)" */
    private static void digits() {
        texts(
                "task a 9", GOOD,
                "task a 09", GOOD,
                "task a 009", GOOD,
                "task a 0009", "1@7",
                "task a 00000009", "1@7",
                "task a 999", "2@7",
                "task a 1000", "1@7",
                "task a 4294967297", "1@7",
                "task a 1" + "0".repeat(300), "1@7",
                "task a /", "1@7",
                "task a :", "1@7",
                "task a 1/", "1@8",
                "task a 1:", "1@8",
                "task a -1", "1@7",
                "task a +1", "1@7",
                TWO + "mode 002", GOOD,
                TWO + "mode 0002", "1@23",
                TWO + "join 001", GOOD,
                TWO + "join 0001", "1@23");
        Check.same("5: zeros ahead", Check.of("task a 009").task(0, 0), 9);
    }

    /** "Spaces (byte 32) may stand before and after words, numbers and semicolons; required only between two words" */
    private static void spaces() {
        texts(
                "task a1;task b9;mode2;join1;arrow a b", GOOD,
                "  task  a  1  ;  task  b  1  ;  arrow  b  a  ;  mode  2  ", GOOD,
                "task a1;join1", GOOD,
                "task a1;mode0;task b1", GOOD,
                "ta sk a1", "1@0",
                "task a1;jo in1", "1@8",
                "task a1;mode 0 0", "1@15");
        RingFreeOrder x = Check.of("task a1;task b9;mode2;join1;arrow b a");
        Check.same("5: without spaces", Check.snapshot(x), "b a mode 2 join 1 hours 1 9 arrows 1>0 accounts 0 0 0 0 0 0 0 0 0");
    }

    /** "a byte .. cannot stand at its place (position of its first byte)" */
    private static void otherBytes() {
        char[] bytes = {0, 1, 9, 10, 13, 31, 33, '#', '+', ',', '-', '.', '=', '>', '(', ')', '@', '[', 127, 128, 160, 255};
        for (char sign : bytes) {
            texts(
                    sign + "task a 1", "1@0",
                    "task" + sign + "a 1", "1@4",
                    "task a" + sign + "1", "1@6",
                    "task a 1" + sign, "1@8",
                    "task a 1;" + sign, "1@9");
            orders(
                    "" + sign, "1@0",
                    "hours" + sign + "a 1;", "1@5",
                    "swap 1" + sign, "1@6");
        }
    }

    /** "a .. word or number cannot stand at its place" */
    private static void wrongPlaces() {
        texts(
                "1", "1@0",
                "task a b", "1@7",
                "task a abcdefgh", "1@7",
                "task 1 a", "1@5",
                "task 1111 a", "1@5",
                "task a 1;1", "1@9",
                "task a 1;b", "1@9",
                "task a 1;cut a a", "1@9",
                "task a 1;hours a 1", "1@9",
                "task a 1;swap 0", "1@9",
                "task a 1;refresh", "1@9",
                "task a 1 b", "1@9",
                "task a 1b", "1@8",
                TWO + "arrow 1 b", "1@24",
                TWO + "arrow a 1", "1@26",
                TWO + "arrow a b a", "1@28",
                TWO + "arrow a b 1", "1@28",
                TWO + "mode a", "1@23",
                TWO + "mode 1 a", "1@25",
                TWO + "join a", "1@23",
                TWO + "join 1 a", "1@25");
    }

    /** "Error 2: a number is out of its range (position of its first digit)" */
    private static void ranges() {
        texts(
                "task a 0", "2@7",
                "task a 1", GOOD,
                "task a 9", GOOD,
                "task a 10", "2@7",
                "task a   000", "2@9",
                TWO + "mode 0", GOOD,
                TWO + "mode 2", GOOD,
                TWO + "mode 3", "2@23",
                TWO + "mode3", "2@22",
                TWO + "mode 999", "2@23",
                TWO + "join 0", GOOD,
                TWO + "join 1", GOOD,
                TWO + "join 2", "2@23",
                TWO + "join  010", "2@24");
    }

    /** "an arrow that would be refused for 1, 2 or 4 (position of its second NAME)" */
    private static void refusedArrows() {
        texts(
                TWO + "arrow a a", "3@26",
                TWO + "arrow  b   b;", "3@29",
                TWO + "arrow a b;arrow a b", "3@36",
                TWO + "arrow a b;arrow b a", "3@36",
                TWO + "join 1;arrow a b;arrow b a", GOOD,
                TWO + "join 1;arrow a b;arrow a b", "3@43",
                TWO + "join 1;arrow b b", "3@33",
                TWO + "task c 1;arrow a b;arrow b c;arrow c a", "3@55",
                TWO + "task c 1;arrow a b;arrow b c;arrow a c", GOOD);
    }

    /** "Error 4: a 25th task (position of the statement's first letter)", "found ahead of all that follows" */
    private static void tooManyTasks() {
        String tasks = Samples.all();
        int at = tasks.length() + 1;
        texts(
                tasks, GOOD,
                tasks + ";mode 1", GOOD,
                tasks + ";task y 1", "4@" + at,
                tasks + ";  task y 1", "4@" + (at + 2),
                tasks + ";task", "4@" + at,
                tasks + ";task a 1", "4@" + at,
                tasks + ";task abcdefg 1", "4@" + at,
                tasks + ";task y 0", "4@" + at,
                tasks + ";task;", "4@" + at,
                tasks + ";task$", "4@" + at);
        Check.same("4: 24 tasks", Check.of(tasks).size(0), 24);
    }

    /** "Error 4: a 61st arrow (position of the statement's first letter)", "found ahead of all that follows" */
    private static void tooManyArrows() {
        String full = Samples.fullText();
        int at = full.length() + 1;
        texts(
                full, GOOD,
                full + ";mode 1", GOOD,
                full + ";arrow a x", "4@" + at,
                full + "; arrow a x", "4@" + (at + 1),
                full + ";arrow", "4@" + at,
                full + ";arrow a a", "4@" + at,
                full + ";arrow a b", "4@" + at,
                full + ";arrow x a", "4@" + at,
                full + ";arrow y y", "4@" + at,
                full + ";arrow 1", "4@" + at,
                full + ";task y 1", "4@" + at);
        Check.same("4: 60 arrows", Check.of(full).size(1), 60);
    }

    /** "Of several errors at one place the one with the smaller number counts." */
    private static void smallerNumberCounts() {
        String full = Samples.fullText();
        int at = full.length() + 1;
        texts(
                "task a 1;arrow abcdefg a", "1@15",
                "task abcdef 1;task abcdefg 1", "1@19",
                "task a 1000", "1@7",
                "task a 0000", "1@7",
                TWO + "mode 3000", "1@23",
                TWO + "mode 1;mode0 1", "3@25",
                TWO + "mode 1;modem 1", "1@25",
                full + ";tasks y 1", "1@" + at,
                full + ";arrows a b", "1@" + at,
                full + ";", "1@" + at,
                full + ";1", "1@" + at);
    }

    /** "The text is read from left to right; the first error ends it." */
    private static void firstErrorEnds() {
        texts(
                "task a 0;x", "2@7",
                "task a 1;arrow b 1", "3@15",
                "task a 1;arrow a a x", "3@17",
                "task a 1;mode 3;mode 3", "2@14",
                "task a 1;x;task a 0", "1@9",
                "task a 1;task a 0;", "3@14",
                "task a x;task a 1", "1@7",
                "task a 0x", "2@7");
    }

    /** "A new task is a group of its own, at the end of the order." */
    private static void newTasksAtTheEnd() {
        Check.same("5: behind a repair", Check.order(Check.of(TWO + "arrow b a;task c 1")), "b a c");
        Check.same("5: behind a group", Check.order(Check.of(TWO + "join 1;arrow b a;arrow a b;task c 1")), "(a+b) c");
    }

    /** "A new object is as by the text "task a 1"." */
    private static void newObjectAsByText() {
        Check.same("5: as by the text", Check.rest(new RingFreeOrder()), Check.rest(Check.of("task a 1")));
        Check.same("5: one task", new RingFreeOrder().size(0), 1);
        Check.index("5: no second one", () -> new RingFreeOrder().task(1, 0));
    }

    /** "Appends .. would exceed 900": the longest texts */
    private static void textsOf900Bytes() {
        texts(
                " ".repeat(892) + "task a 1", GOOD,
                "task a 1" + " ".repeat(892), GOOD,
                " ".repeat(900), "1@900",
                " ".repeat(899) + "$", "1@899",
                "task a 1" + " ".repeat(891) + ";", "1@900",
                " ".repeat(896) + "task", "1@900",
                " ".repeat(894) + "task a", "1@900",
                " ".repeat(892) + "task a 0", "2@899",
                "t".repeat(900), "1@0",
                "task a " + "1".repeat(893), "1@7",
                TWO + " ".repeat(873) + "arrow a a", "3@899");
        orders(
                " ".repeat(899) + ";", "1@899",
                " ".repeat(893) + "refresh", "1@900",
                " ".repeat(892) + "refresh;", GOOD,
                "refresh;" + " ".repeat(892), GOOD,
                " ".repeat(900), GOOD,
                "a".repeat(900), "1@0",
                "swap " + "0".repeat(895), "1@5");
    }

    // ---- promise 4 ----

    /** "begins anew: all accounts are 0 behind it, no change can be taken back. .. The output text and what was saved stay." */
    private static void beginsAnew() {
        RingFreeOrder x = used();
        Check.same("4: accounts ahead of it", Check.accounts(x), "0 1 0 0 0 0 0 0 0");
        Check.give(x, TWO + "arrow b a");
        Check.same("4: tasks", x.readText(), 2);
        Check.same("4: output stays", Check.output(x), ">a");
        Check.same("4: accounts", Check.accounts(x), "0 0 0 0 0 0 0 0 0");
        Check.same("4: changes", x.size(8), 0);
        Check.same("4: none can be taken back", x.undo(), NONE);
        Check.same("4: saved stays", x.restore(), 1);
        Check.same("4: saved tasks", x.size(0), 5);
        RingFreeOrder y = new RingFreeOrder();
        y.writeOrder();
        Check.give(y, TWO + "arrow b a");
        y.readText();
        Check.same("4: a written output stays", Check.output(y), "a");
        Check.state("4: nothing saved still", () -> y.restore());
        for (int tasks = 1; tasks <= 24; tasks++) {
            Check.same("4: number of tasks", Check.of(Samples.all().substring(0, 8 * tasks - 1)).size(0), tasks);
        }
    }

    /** "Throws IllegalArgumentException if the text has an error; then nothing but the buffer and the results .. changes" */
    private static void errorsOfTextsChangeNothing() {
        texts(
                "task x 1;task y 1;mode 2;join 1;arrow y x;task z", "1@48",
                "task x 1;task y 9;mode 2;join 2", "2@30",
                "task x 1;task y 9;mode 2;arrow y y", "3@33");
        RingFreeOrder x = Check.of("task q 5");
        Check.errorOfText(x, "task r 1;task s 0");
        Check.same("4: of a good text ahead", Check.snapshot(x), "q mode 0 join 0 hours 5 arrows accounts 0 0 0 0 0 0 0 0 0");
    }

    // ---- section 6 and promise 5 ----

    /** "Orders are none to 30 statements"; "4 (a 31st statement, position of its first letter)" */
    private static void noneTo30Orders() {
        String thirty = "mode 1;join 0;".repeat(15);
        orders(
                "", GOOD,
                " ", GOOD,
                "refresh;", GOOD,
                thirty, GOOD,
                thirty + "  ", GOOD,
                thirty + "refresh;", "4@210",
                thirty + "   mode 1;", "4@213",
                thirty + "mode", "4@210",
                thirty + "swap 23;", "4@210",
                thirty + "arrow z z;", "4@210",
                thirty + "cut;", "4@210",
                thirty + "hours$", "4@210",
                thirty + "refreshs;", "1@210",
                thirty + "task a 1;", "1@210",
                thirty + "1;", "1@210",
                thirty + ";", "1@210",
                thirty + " ;", "1@211");
        Check.same("5: none", Check.run(used(), ""), 0);
        Check.same("5: one", Check.run(used(), "refresh;"), 1);
        Check.same("5: 29", Check.run(used(), thirty.substring(7)), 29);
        Check.same("5: 30", Check.run(used(), thirty), 30);
    }

    /** "each of them followed by a semicolon" */
    private static void eachOrderWithSemicolon() {
        orders(
                "refresh", "1@7",
                "refresh  ", "1@9",
                "refresh ;", GOOD,
                "refresh;;", "1@8",
                "refresh; ;", "1@9",
                ";", "1@0",
                " ;refresh;", "1@1",
                "refresh;refresh", "1@15",
                "refresh refresh;", "1@8",
                "arrow a b", "1@9",
                "cut a b", "1@7",
                "hours a 1", "1@9",
                "swap 1", "1@6",
                "mode 1", "1@6",
                "join 1", "1@6",
                "mode 1 join 1;", "1@7",
                "mode 1,join 1;", "1@6");
    }

    private static void orderWords() {
        orders(
                "arrow a c;", GOOD,
                "cut a b;", GOOD,
                "hours a 3;", GOOD,
                "swap 0;", GOOD,
                "mode 0;", GOOD,
                "join 0;", GOOD,
                "task f 1;", "1@0",
                "make f 1;", "1@0",
                "undo;", "1@0",
                "refres;", "1@0",
                "refreshh;", "1@0",
                "cuta b;", "1@0",
                "cu a b;", "1@0",
                "swa 1;", "1@0",
                "hour a 1;", "1@0",
                "set 0 1;", "1@0",
                "Refresh;", "1@0",
                "a;", "1@0",
                "mode 1;mode 2;join 1;join 1;", GOOD);
    }

    /** "3 (a NAME that no task has)", a NAME is 1 to 6 letters */
    private static void orderNames() {
        orders(
                "arrow f a;", "3@6",
                "arrow a f;", "3@8",
                "arrow f f;", "3@6",
                "arrow aa a;", "3@6",
                "cut f a;", "3@4",
                "cut a  f;", "3@7",
                "hours f 1;", "3@6",
                "hours f 0;", "3@6",
                "hours f;", "3@6",
                "arrow a", "1@7",
                "arrow a;", "1@7",
                "arrow", "1@5",
                "arrow;", "1@5",
                "cut", "1@3",
                "cut a ", "1@6",
                "hours", "1@5",
                "hours a ", "1@8",
                "arrow abcdefg a;", "1@6",
                "arrow a abcdefg;", "1@8",
                "cut abcdefg a;", "1@4",
                "hours abcdefg 1;", "1@6",
                "hours abcdef 1;", "3@6",
                "arrow a a;", GOOD,
                "arrow 1 a;", "1@6",
                "cut a 1;", "1@6");
        RingFreeOrder x = Check.of("task abcdef 1;task b 1");
        Check.same("6: six letters", Check.run(x, "hours abcdef 2;arrow b abcdef;cut b abcdef;"), 3);
    }

    /** "swap PLACE (0 to 22)", HOURS 1 to 9, MODE 0 to 2, JOIN 0 or 1 */
    private static void orderRanges() {
        orders(
                "swap 0;", GOOD,
                "swap 22;", GOOD,
                "swap 23;", "2@5",
                "swap 999;", "2@5",
                "swap 1000;", "1@5",
                "swap 022;", GOOD,
                "swap 0022;", "1@5",
                "hours a 0;", "2@8",
                "hours a 1;", GOOD,
                "hours a 9;", GOOD,
                "hours a 10;", "2@8",
                "hours a 0001;", "1@8",
                "mode 2;", GOOD,
                "mode 3;", "2@5",
                "mode  0003;", "1@6",
                "join 1;", GOOD,
                "join 2;", "2@5",
                "join0002;", "1@4");
    }

    private static void orderTokens() {
        orders(
                "  hours  a9  ;  swap0  ;mode1;join1;cut a b;  ", GOOD,
                "swap", "1@4",
                "swap;", "1@4",
                "swap a;", "1@5",
                "mode", "1@4",
                "mode ;", "1@5",
                "join a;", "1@5",
                "hours a a;", "1@8",
                "hours 1 a;", "1@6",
                "hours a 1 1;", "1@10",
                "hours a 1b;", "1@9",
                "refresh 1;", "1@8",
                "refresh1;", "1@7",
                "swap -1;", "1@5",
                "arrow a b c;", "1@10",
                "1;", "1@0",
                "swap 1 1;", "1@7");
    }

    /** An error of orders is found ahead of the doing of any of them. */
    private static void errorsOfOrdersChangeNothing() {
        orders(
                "hours a 9;mode 2;join 1;arrow c a;swap 2;refresh;x;", "1@49",
                "arrow b a;hours a 0;", "2@18",
                "cut a b;arrow a z;", "3@16",
                "arrow a a;x", "1@10");
    }

    /** "the first one that is refused ends them (those ahead of it stay done)" */
    private static void refusedOrderEnds() {
        String[] refused = {"arrow a a;", "cut b a;", "swap 4;", "arrow c d;arrow d c;"};
        for (String one : refused) {
            RingFreeOrder x = used();
            int extra = one.length() > 10 ? 1 : 0;
            Check.same("6: ended by " + one, Check.run(x, "hours a 2;" + one + "hours a 3;"), 1 + extra);
            Check.same("6: ahead stays done", x.task(0, 0), 2);
            Check.same("6: is no error", Check.latestError(x), GOOD);
        }
        RingFreeOrder y = used();
        Check.same("6: the first ends", Check.run(y, "swap 4;hours a 3;"), 0);
        Check.same("6: none done", y.task(0, 0), 1);
        Check.same("6: the last ends", Check.run(y, "hours a 3;swap 4;"), 1);
    }

    /** "swap() (refused for 9 if there is no such place)" and for 5 */
    private static void refusedSwaps() {
        for (int place = 0; place <= 22; place++) {
            Check.same("6: swap " + place, Check.run(used(), "swap " + place + ";"), place <= 3 ? 1 : 0);
            Check.same("6: of 24, swap " + place, Check.run(Check.of(Samples.all()), "swap " + place + ";"), 1);
            Check.same("6: alone, swap " + place, Check.run(new RingFreeOrder(), "swap " + place + ";"), 0);
        }
        Check.same("6: an arrow leads", Check.run(Check.of(TWO + "arrow a b"), "swap 0;"), 0);
    }

    /** "cut() (refused for 9 if there is no such arrow)" */
    private static void refusedCuts() {
        Check.same("6: such an arrow", Check.run(Check.of(TWO + "arrow a b"), "cut a b;"), 1);
        Check.same("6: the other way round", Check.run(Check.of(TWO + "arrow a b"), "cut b a;"), 0);
        Check.same("6: once only", Check.run(Check.of(TWO + "arrow a b"), "cut a b;cut a b;"), 1);
        Check.same("6: from it to itself", Check.run(Check.of(TWO + "arrow a b"), "cut a a;"), 0);
    }

    private static void refusedArrowOrders() {
        Check.same("6: refused for 1", Check.run(Check.of(TWO + "arrow a b"), "arrow a a;"), 0);
        Check.same("6: refused for 2", Check.run(Check.of(TWO + "arrow a b"), "arrow a b;"), 0);
        Check.same("6: refused for 4", Check.run(Check.of(TWO + "arrow a b"), "arrow b a;"), 0);
        Check.same("6: not refused", Check.run(Check.of(TWO + "arrow a b"), "join 1;arrow b a;"), 2);
        RingFreeOrder x = Samples.full();
        Check.same("6: refused for 3", Check.run(x, "arrow a x;"), 0);
        Check.same("6: the 60th, then refused for 3", Check.run(x, "cut a b;arrow a x;arrow a b;"), 2);
        Check.same("6: 60 arrows", x.size(1), 60);
        Check.same("6: refused arrows are no account", Check.accounts(Samples.full()), "0 0 0 0 0 0 0 0 0");
    }

    /** "(one change, also if none is done)" */
    private static void ordersAreOneChange() {
        RingFreeOrder x = new RingFreeOrder();
        for (int k = 1; k <= 9; k++) {
            Check.same("5: none done", Check.run(x, k % 2 == 0 ? "" : "swap 0;"), 0);
            Check.same("5: each is one change", x.size(8), Math.min(k, 8));
        }
        RingFreeOrder y = used();
        String before = Check.snapshot(y);
        Check.same("5: five done", Check.run(y, "hours a 7;arrow a c;join 1;swap 3;mode 0;"), 5);
        Check.same("5: taken back as one", y.undo(), 2);
        Check.same("5: all of them", Check.snapshot(y), before);
    }

    // ---- promises 6 and 7 ----

    /** "0 if its text had no error or there was no such call", "NONE if .." */
    private static void latestError() {
        Check.same("6, 7: no such call", Check.latestError(new RingFreeOrder()), GOOD);
        RingFreeOrder x = used();
        String[][] cases = {{"$", "1@0"}, {"task a 0", "2@7"}, {"task a 1;task a 1", "3@14"},
            {Samples.all() + ";task y 1", "4@" + (Samples.all().length() + 1)}};
        for (String[] one : cases) {
            Check.same("6, 7: " + one[0], Check.errorOfText(x, one[0]), one[1]);
            Check.give(x, "f");
            x.make(1);
            x.undo();
            x.save();
            x.restore();
            Check.same("6, 7: stays with other calls", Check.latestError(x), one[1]);
        }
        Check.run(x, "swap 4;");
        Check.same("6, 7: orders without an error", Check.latestError(x), GOOD);
        Check.errorOfOrders(x, "   x;");
        Check.same("6, 7: orders with one", Check.latestError(x), "1@3");
        Check.give(x, "task a 1");
        x.readText();
        Check.same("6, 7: a text without an error", Check.latestError(x), GOOD);
    }
}
