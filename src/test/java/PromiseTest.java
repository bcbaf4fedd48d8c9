/** At least one test for each promise of the document, by its number. */
public final class PromiseTest {
    private static final int NONE = RingFreeOrder.NONE;
    private static final String FIVE = "task a 1;task b 2;task c 3;task d 4;task e 5";
    /** Order: a (b+c+d) e; arrows 0 ab, 1 bc, 2 cd, 3 db, 4 de, 5 ce. */
    private static final String GROUPED = "join 1;arrow a b;arrow b c;arrow c d;arrow d b;arrow d e;arrow c e";

    private PromiseTest() {
    }

    public static void main(String[] args) {
        newObject();
        buffer();
        readText();
        readTextErrors();
        readTextAtBounds();
        runOrders();
        runOrdersErrors();
        sizes();
        tasksAndLetters();
        groups();
        arrows();
        ways();
        trial();
        trialWithRings();
        why();
        bestMode();
        places();
        freshAndTurned();
        chains();
        weakestAndNeedless();
        accounts();
        shares();
        make();
        addRefusals();
        repairModes();
        joinModes();
        vanishingPlaces();
        cut();
        swap();
        setHours();
        set();
        refresh();
        writing();
        undo();
        saveAndRestore();
        limits();
        Check.end("PromiseTest");
    }

    private static RingFreeOrder grouped() {
        return Check.of(FIVE + ";" + GROUPED);
    }

    private static void newObject() {
        RingFreeOrder x = new RingFreeOrder();
        Check.same("1: NONE", NONE, -1);
        Check.same("1: tasks", x.size(0), 1);
        Check.same("1: state", Check.snapshot(x), "a mode 0 join 0 hours 1 arrows accounts 0 0 0 0 0 0 0 0 0");
        RingFreeOrder y = new RingFreeOrder();
        Check.same("1: empty output", y.outputByte(0), NONE);
        Check.same("1: nothing to take back", y.undo(), NONE);
        Check.state("1: nothing saved", () -> y.restore());
        Check.same("1: empty buffer", y.append(0, 0, 0, 0, 0), 20);
        Check.same("6: no call yet", y.errorCode(), 0);
        Check.same("7: no call yet", y.errorPosition(), NONE);
    }

    private static void buffer() {
        RingFreeOrder x = new RingFreeOrder();
        Check.same("2: first", x.append('t' << 24 | 'a' << 16 | 's' << 8 | 'k', ' ' << 24 | 'b' << 16 | ' ' << 8 | '7',
                ' ' << 24 | ' ' << 16 | ' ' << 8 | ' ', 0x20202020, 0x20202020), 20);
        Check.same("2: is read", x.readText(), 1);
        Check.same("2: hours read", x.task(0, 0), 7);
        for (int k = 1; k <= 45; k++) {
            Check.same("2: length", x.append(0, 0, 0, 0, 0), 20 * k);
        }
        Check.state("2: 901 bytes", () -> x.append(0, 0, 0, 0, 0));
        Check.same("3: same length", x.truncate(900), 900);
        Check.same("3: cut", x.truncate(881), 881);
        Check.state("2: 881 and 20", () -> x.append(0, 0, 0, 0, 0));
        Check.same("3: cut once more", x.truncate(880), 880);
        Check.same("2: 880 and 20", x.append(0, 0, 0, 0, 0), 900);
        Check.argument("3: negative", () -> x.truncate(-1));
        Check.argument("3: too long", () -> x.truncate(901));
        Check.same("3: to nothing", x.truncate(0), 0);
        Check.argument("3: one of nothing", () -> x.truncate(1));
        Check.same("2: most significant first, by name", name(0x7a797877), "zyxw");
    }

    private static String name(int bytes) {
        RingFreeOrder x = new RingFreeOrder();
        x.append(bytes, 0, 0, 0, 0);
        x.truncate(4);
        x.make(1);
        return Check.order(x).substring(2);
    }

    private static void readText() {
        RingFreeOrder x = new RingFreeOrder();
        x.set(0, 2);
        x.set(1, 1);
        Check.order(x);
        x.save();
        Check.give(x, "  task  abcdef009;task b 1 ; mode2;join 1;arrow b abcdef  ");
        Check.same("4: tasks", x.readText(), 2);
        Check.same("4: output stays", Check.output(x), "a");
        Check.same("4: state", Check.snapshot(x),
                "b abcdef mode 2 join 1 hours 9 1 arrows 1>0 accounts 0 0 0 0 0 0 0 0 0");
        Check.same("4: no change can be taken back", x.undo(), NONE);
        Check.same("4: buffer is emptied", x.append(0, 0, 0, 0, 0), 20);
        Check.same("4: error", x.errorCode(), 0);
        x.restore();
        Check.same("4: saved stays", Check.snapshot(x), "a mode 2 join 1 hours 1 arrows accounts 0 0 0 0 0 0 0 0 0");
        Check.same("4: modes anew", Check.snapshot(Check.of("task b 3")),
                "b mode 0 join 0 hours 3 arrows accounts 0 0 0 0 0 0 0 0 0");
        Check.same("4: mode holds from there on",
                Check.order(Check.of("task a 1;task b 1;task c 1;task d 1;arrow d b;mode 2;arrow c a")), "c a d b");
        Check.same("4: keywords as names", Check.order(Check.of("task task 1;task arrow 2;arrow arrow task")), "arrow task");
    }

    private static void readTextErrors() {
        String[][] cases = {
            {"", "1@0"}, {"   ", "1@3"}, {"task", "1@4"}, {"task a", "1@6"}, {"task a ", "1@7"}, {"task a 1;", "1@9"},
            {"task a 1; ", "1@10"}, {"task a 1;;", "1@9"}, {";task a 1", "1@0"}, {"arrow a b", "1@0"},
            {"mode 1;task a 1", "1@0"}, {"join 1", "1@0"}, {"refresh", "1@0"}, {"Task a 1", "1@0"}, {"taSk a 1", "1@0"},
            {"taska 1", "1@0"}, {"mask a 1", "1@0"}, {"tasl a 1", "1@0"}, {"tusk a 1", "1@0"},
            {"task1 1", "1@4"}, {"task a1", "0@-1"}, {"task a 1 2", "1@9"}, {"task a 1b", "1@8"},
            {"task a 0", "2@7"}, {"task a 10", "2@7"}, {"task a 999", "2@7"}, {"task a 009", "0@-1"},
            {"task a 0001", "1@7"}, {"task a 9999999999", "1@7"}, {"task a 0x", "2@7"}, {"task a -1", "1@7"},
            {"task abcdefg 1", "1@5"}, {"task abcdef 1", "0@-1"}, {"task a 1\n", "1@8"}, {"task\ta 1", "1@4"},
            {"task a 1;task a 1", "3@14"}, {"task a 1;task a", "3@14"}, {"task a 1;task a$", "3@14"},
            {"task a 1;arrow b a", "3@15"}, {"task a 1;arrow a b", "3@17"}, {"task a 1;arrow a a", "3@17"},
            {"task a 1;arrow a", "1@16"}, {"task a 1;arrow abcdefg a", "1@15"}, {"task a 1;arrow 1 a", "1@15"},
            {"task a 1;task b 1;arrow a b;arrow a b", "3@36"}, {"task a 1;task b 1;arrow a b;arrow b a", "3@36"},
            {"task a 1;task b 1;join 1;arrow a b;arrow b a", "0@-1"},
            {"task a 1;task b 1;arrow a b;arrow b a;join 1", "3@36"}, {"task a 1;mode 3", "2@14"},
            {"task a 1;mode 2;mode", "3@16"}, {"task a 1;mode 2;modes", "1@16"}, {"task a 1;join 2", "2@14"},
            {"task a 1;join 1;join 1", "3@16"}, {"task a 1;mode", "1@13"}, {"task a 1;mode x", "1@14"},
            {"task a 1;mode 1;join 1", "0@-1"}, {"task a 1;mode 0 0", "1@16"}, {"task a 1 task b 1", "1@9"},
            {"task a 1;cut a a", "1@9"}, {"task a 1\u0080", "1@8"}, {"task \u00e1 1", "1@5"}, {"task a 1;mode 0002", "1@14"},
        };
        for (String[] one : cases) {
            RingFreeOrder x = Check.of("task q 5");
            Check.run(x, "hours q 6;");
            String before = one[1].equals("0@-1") ? "" : Check.snapshot(x);
            Check.same("4, 6, 7: " + one[0], Check.errorOfText(x, one[0]), one[1]);
            Check.same("4: buffer is emptied behind " + one[0], x.append(0, 0, 0, 0, 0), 20);
            if (!before.isEmpty()) {
                Check.same("4: nothing changes by " + one[0], Check.snapshot(x), before);
                Check.same("4: can be taken back behind " + one[0], x.undo(), 0);
            }
        }
        RingFreeOrder x = Check.of("task q 5");
        String full = Samples.fullText();
        String tasks = full.substring(0, full.indexOf(";arrow"));
        Check.same("4: a 25th task", Check.errorOfText(x, tasks + ";task"), "4@" + (tasks.length() + 1));
        Check.same("4: a 25th task, no word", Check.errorOfText(x, tasks + "; tasks"), "1@" + (tasks.length() + 2));
        Check.same("4: full", Check.errorOfText(x, full), "0@-1");
        Check.same("4: a 61st arrow", Check.errorOfText(x, full + ";arrow"), "4@" + (full.length() + 1));
        Check.same("4: a 61st arrow, no word", Check.errorOfText(x, full + ";arrows"), "1@" + (full.length() + 1));
    }

    /** What was cut off the buffer is not read, and a text may fill it to its last byte. */
    private static void readTextAtBounds() {
        RingFreeOrder x = new RingFreeOrder();
        Check.give(x, "task a 19");
        x.truncate(8);
        x.readText();
        Check.same("4: digits that were cut off", x.task(0, 0), 1);
        Check.give(x, "task abc 1;arrow abcdef");
        x.truncate(19);
        Check.argument("4: letters that were cut off", () -> x.readText());
        Check.same("4: a NAME that no task has", x.errorCode() + "@" + x.errorPosition(), "3@17");
        Check.give(x, "task a 1   ");
        x.truncate(9);
        Check.same("4: spaces that were cut off", x.readText(), 1);
        Check.same("4: 900 bytes, a digit last", Check.errorOfText(x, " ".repeat(892) + "task a 1"), "0@-1");
        Check.same("4: 900 bytes, a space last", Check.errorOfText(x, "task a 1" + " ".repeat(892)), "0@-1");
        Check.same("4: 900 bytes, a letter last", Check.errorOfText(x, "task a 1;arrow" + " ".repeat(885) + "a"), "1@900");
        Check.same("4: 900 letters", Check.errorOfText(x, "a".repeat(900)), "1@0");
        Check.same("4: 900 digits", Check.errorOfText(x, "task a " + "1".repeat(893)), "1@7");
        Check.same("4: 900 semicolons", Check.errorOfText(x, ";".repeat(900)), "1@0");
        Check.same("5: 900 spaces", Check.errorOfOrders(x, " ".repeat(900)), "0@-1");
        Check.same("5: 900 bytes, a semicolon last", Check.errorOfOrders(x, "refresh" + " ".repeat(892) + ";"), "0@-1");
        Check.same("5: 900 bytes, none last", Check.errorOfOrders(x, " ".repeat(893) + "refresh"), "1@900");
    }

    private static void runOrders() {
        RingFreeOrder x = Check.of(FIVE);
        Check.same("5: none", Check.run(x, ""), 0);
        Check.same("5: is one change", x.size(8), 1);
        Check.same("5: only spaces", Check.run(x, "  "), 0);
        Check.same("5: all kinds", Check.run(x, "arrow b a;join 1;mode 2;hours c9 ; swap 1;refresh;cut b a;"), 7);
        Check.same("5: state", Check.snapshot(x),
                "b a c d e mode 2 join 1 hours 1 2 9 4 5 arrows accounts 1 1 1 2 0 2 0 0 1");
        Check.same("5: one change", x.undo(), 2);
        Check.same("5: taken back", Check.snapshot(x),
                "a b c d e mode 0 join 0 hours 1 2 3 4 5 arrows accounts 0 0 0 0 0 0 0 0 0");
        Check.same("5: refused arrow ends", Check.run(x, "arrow a b;arrow b a;hours a 9;"), 1);
        Check.same("5: no error", x.errorCode(), 0);
        Check.same("5: known arrow", Check.run(x, "arrow a b;hours a 9;"), 0);
        Check.same("5: to itself", Check.run(x, "arrow a a;"), 0);
        Check.same("5: cut of none", Check.run(x, "hours a 2;cut b a;hours a 9;"), 1);
        Check.same("5: no such place", Check.run(x, "swap 3;swap 4;"), 1);
        Check.same("5: place 22", Check.run(x, "swap 22;"), 0);
        Check.same("5: swap refused", Check.run(x, "swap 0;"), 0);
        Check.same("5: those ahead stay", Check.snapshot(x),
                "a b c e d mode 0 join 0 hours 2 2 3 4 5 arrows 0>1 accounts 1 0 0 0 0 0 0 0 1");
        Check.same("5: mode twice", Check.run(x, "mode 1;mode 0;join 1;join 0;"), 4);
        Check.same("5: buffer is emptied", x.append(0, 0, 0, 0, 0), 20);
        RingFreeOrder y = Samples.full();
        Check.same("5: a 61st arrow is refused", Check.run(y, "arrow a x;"), 0);
        Check.same("5: 30 orders", Check.run(y, "mode 0;".repeat(30)), 30);
    }

    private static void runOrdersErrors() {
        String[][] cases = {
            {";", "1@0"}, {"refresh", "1@7"}, {"refresh ", "1@8"}, {"refresh;;", "1@8"}, {"refresh refresh;", "1@8"},
            {"task f 1;", "1@0"}, {"arrow a;", "1@7"}, {"arrow a f;", "3@8"}, {"arrow f a;", "3@6"}, {"cut a f;", "3@6"},
            {"cut f a;", "3@4"}, {"hours f 1;", "3@6"}, {"hours a 0;", "2@8"}, {"hours a 10;", "2@8"}, {"hours a;", "1@7"},
            {"swap 23;", "2@5"}, {"swap 22;", "0@-1"}, {"swap 022;", "0@-1"}, {"swap 0022;", "1@5"}, {"swap a;", "1@5"},
            {"mode 3;", "2@5"}, {"join 2;", "2@5"}, {"hours a 9;x", "1@10"}, {"hours a 9;\u00ff", "1@10"},
            {"hours abcdefg 1;", "1@6"}, {"hours a 1 1;", "1@10"}, {"refresh1;", "1@7"}, {"1;", "1@0"},
            {"mode 0;".repeat(30) + "refresh", "4@210"}, {"mode 0;".repeat(30) + " swap 99;", "4@211"},
            {"mode 0;".repeat(30) + "modes 0;", "1@210"}, {"mode 0;".repeat(30) + ";", "1@210"},
        };
        for (String[] one : cases) {
            RingFreeOrder x = Check.of(FIVE);
            int changes = x.size(8);
            String before = Check.snapshot(x);
            Check.same("5, 6, 7: " + one[0], Check.errorOfOrders(x, one[0]), one[1]);
            Check.same("5: buffer is emptied behind " + one[0], x.append(0, 0, 0, 0, 0), 20);
            Check.same("5: nothing changes by " + one[0], Check.snapshot(x), before);
            if (!one[1].equals("0@-1")) {
                Check.same("5: no change by " + one[0], x.size(8), changes);
            }
        }
        RingFreeOrder x = Check.of(FIVE);
        Check.errorOfOrders(x, "x");
        x.make(1);
        x.save();
        x.restore();
        x.undo();
        Check.same("6: stays", x.errorCode(), 1);
        Check.same("7: stays", x.errorPosition(), 0);
        Check.errorOfText(x, "task a 0");
        Check.same("6: of the latest call", x.errorCode(), 2);
        Check.same("7: of the latest call", x.errorPosition(), 7);
        Check.run(x, "");
        Check.same("6: none", x.errorCode(), 0);
        Check.same("7: none", x.errorPosition(), NONE);
    }

    private static void sizes() {
        RingFreeOrder x = grouped();
        x.set(0, 2);
        int[] due = {5, 6, 3, 2, 1, 3, 3, 1, 1};
        for (int k = 0; k < due.length; k++) {
            Check.same("8: size " + k, x.size(k), due[k]);
        }
        Check.argument("8: 9", () -> x.size(9));
        Check.argument("8: -1", () -> x.size(-1));
        Check.same("8: alone", new RingFreeOrder().size(5), 1);
        Check.same("8: no group of two", new RingFreeOrder().size(7), 0);
    }

    private static void tasksAndLetters() {
        RingFreeOrder x = Check.of("task ab 3;task abcdef 4;task c 5;task d 6;join 1;arrow d c;arrow c d;arrow d abcdef;arrow ab d");
        int[][] due = {{3, 0, 0, 1, 0, 3, 0, 2}, {4, 1, 2, 0, 1, 0, 3, 6}, {5, 2, 1, 1, 1, 2, 2, 1}, {6, 2, 1, 2, 2, 2, 2, 1}};
        for (int t = 0; t < 4; t++) {
            for (int k = 0; k < 8; k++) {
                Check.same("9: task " + t + " " + k, x.task(t, k), due[t][k]);
            }
        }
        Check.index("9: task 4", () -> x.task(4, 0));
        Check.index("9: task -1", () -> x.task(-1, 9));
        Check.argument("9: what 8", () -> x.task(0, 8));
        Check.argument("9: what -1", () -> x.task(0, -1));
        Check.same("10: a", x.letter(0, 0), 'a');
        Check.same("10: b", x.letter(0, 1), 'b');
        Check.same("10: none", x.letter(0, 2), NONE);
        Check.same("10: f", x.letter(1, 5), 'f');
        Check.same("10: six", x.letter(1, 6), NONE);
        Check.same("10: eight", x.letter(1, 8), NONE);
        Check.same("10: negative", x.letter(1, -1), NONE);
        Check.same("10: more negative", x.letter(1, -8), NONE);
        Check.same("10: great", x.letter(1, Integer.MAX_VALUE), NONE);
        Check.index("10: task 4", () -> x.letter(4, 0));
        Check.index("10: task -1", () -> x.letter(-1, 0));
    }

    private static void groups() {
        RingFreeOrder x = grouped();
        int[][] due = {{0, 1, 1, 0, 1, 0, 0, 0}, {1, 3, 9, 3, 14, 1, 1, 0}, {4, 1, 5, 0, 16, 2, 10, 0}};
        for (int p = 0; p < 3; p++) {
            for (int k = 0; k < 8; k++) {
                Check.same("11: group " + p + " " + k, x.group(p, k), due[p][k]);
            }
        }
        Check.index("11: place 3", () -> x.group(3, 0));
        Check.index("11: place -1", () -> x.group(-1, 99));
        Check.argument("11: what 8", () -> x.group(0, 8));
        Check.argument("11: what -1", () -> x.group(0, -1));
    }

    private static void arrows() {
        RingFreeOrder x = grouped();
        int[][] due = {{0, 1, 0, 1}, {1, 2, 1, 0}, {2, 3, 1, 0}, {3, 1, 1, 0}, {3, 4, 0, 1}, {2, 4, 0, 1}};
        for (int i = 0; i < 6; i++) {
            for (int k = 0; k < 4; k++) {
                Check.same("12: arrow " + i + " " + k, x.arrow(i, k), due[i][k]);
            }
        }
        Check.index("12: arrow 6", () -> x.arrow(6, 0));
        Check.index("12: arrow -1", () -> x.arrow(-1, 9));
        Check.argument("12: what 4", () -> x.arrow(0, 4));
        Check.argument("12: what -1", () -> x.arrow(0, -1));
        Check.same("12: farther", Check.of(FIVE + ";arrow a e").arrow(0, 3), 4);
        Check.same("13: ce", x.arrowOf(2, 4), 5);
        Check.same("13: ec", x.arrowOf(4, 2), NONE);
        Check.same("13: aa", x.arrowOf(0, 0), NONE);
        Check.index("13: from", () -> x.arrowOf(-1, 0));
        Check.index("13: to", () -> x.arrowOf(0, 5));
    }

    private static void ways() {
        RingFreeOrder x = Check.of(FIVE + ";task f 1;task g 1;arrow a c;arrow a b;arrow b e;arrow c d;arrow d e;arrow c e;arrow e f");
        Check.same("14: af", x.reaches(0, 5) ? 1 : 0, 1);
        Check.same("14: fa", x.reaches(5, 0) ? 1 : 0, 0);
        Check.same("14: gg", x.reaches(6, 6) ? 1 : 0, 1);
        Check.same("14: bc", x.reaches(1, 2) ? 1 : 0, 0);
        Check.index("14: from", () -> x.reaches(7, 0));
        Check.index("14: to", () -> x.reaches(0, -1));
        Check.same("15: af", x.far(0, 5), 3);
        Check.same("15: ad", x.far(0, 3), 2);
        Check.same("15: gg", x.far(6, 6), 0);
        Check.same("15: fa", x.far(5, 0), NONE);
        Check.index("15: from", () -> x.far(-1, 0));
        Check.index("15: to", () -> x.far(0, 7));
        int[] way = {NONE, 0, 1, 4, 5, NONE, NONE};
        for (int k = -1; k < 6; k++) {
            Check.same("16: af " + k, x.on(0, 5, k), way[k + 1]);
        }
        Check.same("16: gg 0", x.on(6, 6, 0), 6);
        Check.same("16: gg 1", x.on(6, 6, 1), NONE);
        Check.same("16: no way", x.on(5, 0, 0), NONE);
        Check.same("16: no way, behind it", x.on(5, 0, 1), NONE);
        Check.same("16: great", x.on(0, 5, Integer.MAX_VALUE), NONE);
        Check.index("16: from", () -> x.on(7, 0, 0));
        Check.index("16: to", () -> x.on(0, -1, 0));
        RingFreeOrder y = Check.of(FIVE + ";join 1;arrow a b;arrow b c;arrow c d;arrow d e;arrow e a");
        Check.same("15: round", y.far(1, 0), 4);
        Check.same("16: round", y.on(1, 0, 3), 4);
    }

    private static String trialOf(RingFreeOrder x, int from, int to) {
        StringBuilder text = new StringBuilder();
        for (int k = 0; k < 6; k++) {
            text.append(k == 0 ? "" : " ").append(x.trial(from, to, k));
        }
        return text.toString();
    }

    private static void trial() {
        // b reaches d, c reaches e: arrow e b affects b c d e; BEHIND b d, AHEAD c e
        RingFreeOrder x = Check.of(FIVE + ";task f 1;arrow b d;arrow c e;arrow a c;arrow d f");
        String before = Check.snapshot(x);
        Check.same("17: eb", trialOf(x, 4, 1), "4 2 2 0 4 4");
        Check.same("17: nothing to repair", trialOf(x, 0, 5), "0 0 0 0 0 0");
        Check.same("17: same", trialOf(x, 1, 1), "0 0 0 0 0 0");
        Check.same("17: known", trialOf(x, 1, 3), "0 0 0 0 0 0");
        Check.same("17: nothing changes", Check.snapshot(x), before);
        Check.same("17: ed", trialOf(x, 4, 3), "2 1 1 0 2 2");
        Check.index("17: from", () -> x.trial(6, 0, 9));
        Check.index("17: to", () -> x.trial(0, -1, 0));
        Check.argument("17: what 6", () -> x.trial(0, 1, 6));
        Check.argument("17: what -1", () -> x.trial(0, 0, -1));
        RingFreeOrder y = Samples.full();
        Check.same("17: full", trialOf(y, 23, 0), "0 0 0 0 0 0");
        y.cut(59);
        Check.same("17: ring", trialOf(y, 23, 0), "24 24 24 24 118 0");
    }

    private static void trialWithRings() {
        // arrow d a: ring of a b d, c is neither; e behind
        RingFreeOrder x = Check.of(FIVE + ";arrow a b;arrow b d;arrow d e;arrow a e");
        Check.same("17: ring, join 0", trialOf(x, 3, 0), "4 3 3 3 6 0");
        x.set(1, 1);
        Check.same("17: ring, join 1, mode 0", trialOf(x, 3, 0), "4 3 3 3 6 2");
        x.set(0, 1);
        Check.same("17: ring, join 1, mode 1", trialOf(x, 3, 0), "4 3 3 3 6 2");
        x.set(0, 2);
        Check.same("17: ring, join 1, mode 2", trialOf(x, 3, 0), "4 3 3 3 6 2");
        Check.same("33: foretold", x.add(3, 0), 2);
        Check.same("33: order", Check.order(x), "(a+b+d) c e");
        Check.same("17: within a group", trialOf(x, 1, 0), "0 0 0 0 0 0");
    }

    private static String whyOf(RingFreeOrder x, int from, int to) {
        return x.why(from, to, 0) + " " + x.why(from, to, 1) + " " + x.why(from, to, 2) + " " + x.why(from, to, 3);
    }

    private static void why() {
        RingFreeOrder x = Check.of(FIVE + ";arrow a c;arrow c e;arrow a d;arrow d e;arrow b a");
        Check.same("18: same", whyOf(x, 1, 1), "1 0 0 0");
        Check.same("18: known", whyOf(x, 0, 2), "2 0 0 0");
        Check.same("18: none", whyOf(x, 2, 3), "0 0 0 0");
        Check.same("18: ring", whyOf(x, 4, 0), "4 103 203 0");
        Check.same("18: short ring", whyOf(x, 0, 1), "4 101 202 0");
        Check.same("18: great depth", x.why(4, 0, Integer.MAX_VALUE), 0);
        x.set(1, 1);
        Check.same("18: join 1", whyOf(x, 4, 0), "0 0 0 0");
        Check.index("18: from", () -> x.why(5, 0, -1));
        Check.index("18: to", () -> x.why(0, -1, 0));
        Check.argument("18: depth", () -> x.why(0, 0, -1));
        RingFreeOrder y = Samples.full();
        Check.same("18: full", whyOf(y, 23, 0), "3 0 0 0");
        Check.same("18: full and known", whyOf(y, 0, 1), "2 0 0 0");
        Check.same("18: full and same", whyOf(y, 1, 1), "1 0 0 0");
        x.add(4, 0);
        x.set(1, 0);
        Check.same("18: within a group", whyOf(x, 4, 2), "0 0 0 0");
    }

    private static String movedByModes(RingFreeOrder x, int from, int to) {
        StringBuilder text = new StringBuilder();
        for (int mode = 0; mode < 3; mode++) {
            x.set(0, mode);
            text.append(mode == 0 ? "" : " ").append(x.trial(from, to, 5));
        }
        return text.toString();
    }

    private static void bestMode() {
        String six = FIVE + ";task f 1;join 1";
        // the ring is a b f in each; c d BEHIND alone, e neither
        RingFreeOrder x = Check.of(six + ";arrow a b;arrow b f;arrow a c;arrow a d");
        Check.same("17: moved by modes", movedByModes(x, 5, 0), "3 2 4");
        Check.same("19: mode 1", x.bestMode(5, 0), 1);
        Check.same("19: mode stays", x.size(3), 2);
        // c BEHIND alone, d neither, e AHEAD alone
        RingFreeOrder y = Check.of(six + ";arrow a b;arrow b f;arrow a c;arrow e f");
        Check.same("17: moved by modes", movedByModes(y, 5, 0), "4 4 2");
        Check.same("19: mode 2", y.bestMode(5, 0), 2);
        Check.same("19: known", y.bestMode(0, 1), NONE);
        Check.same("19: same", y.bestMode(2, 2), NONE);
        Check.same("19: nothing to repair", y.bestMode(0, 3), 0);
        y.set(1, 0);
        Check.same("19: ring is refused", y.bestMode(5, 0), NONE);
        // without a ring; all modes alike
        RingFreeOrder z = Check.of("task a 1;task b 1;mode 2");
        Check.same("17: moved by modes", movedByModes(z, 1, 0), "2 2 2");
        Check.same("19: of several the least", z.bestMode(1, 0), 0);
        Check.same("19: mode 0", Check.of(FIVE + ";mode 1").bestMode(3, 0), 0);
        Check.index("19: from", () -> x.bestMode(6, 0));
        Check.index("19: to", () -> x.bestMode(0, -1));
        Check.same("19: full", Samples.full().bestMode(0, 23), NONE);
    }

    private static void places() {
        RingFreeOrder x = Check.of(FIVE + ";arrow a c;arrow c e");
        int[][] due = {{0, 1}, {0, 4}, {1, 3}, {0, 4}, {3, 4}};
        for (int t = 0; t < 5; t++) {
            Check.same("20: task " + t, x.leastPlace(t), due[t][0]);
            Check.same("21: task " + t, x.mostPlace(t), due[t][1]);
        }
        RingFreeOrder y = grouped();
        Check.same("20: of a group", y.leastPlace(3), 1);
        Check.same("21: of a group", y.mostPlace(2), 1);
        Check.index("20: task 5", () -> x.leastPlace(5));
        Check.index("20: task -1", () -> x.leastPlace(-1));
        Check.index("21: task 5", () -> x.mostPlace(5));
        Check.index("21: task -1", () -> x.mostPlace(-1));
    }

    private static void freshAndTurned() {
        RingFreeOrder x = Check.of(FIVE + ";join 1;arrow e c;arrow c e;arrow d b;arrow e a");
        int[] heads = {2, 0, 3, 1};
        for (int p = 0; p < 4; p++) {
            Check.same("22: place " + p, x.fresh(p), heads[p]);
        }
        Check.index("22: place 4", () -> x.fresh(4));
        Check.index("22: place -1", () -> x.fresh(-1));
        Check.same("23: order", Check.order(x), "(c+e) d a b");
        Check.same("23: turned", x.turned(), 1);
        Check.same("23: none", Check.of(FIVE).turned(), 0);
        RingFreeOrder y = Check.of(FIVE);
        Check.run(y, "swap 3;swap 2;swap 1;swap 0;");
        Check.same("23: four", y.turned(), 4);
        Check.same("38: moved", y.refresh(), 5);
        Check.same("38: order", Check.order(y), "a b c d e");
    }

    private static void chains() {
        // a1 -> c3 -> e5 is 9, b2 -> d4 is 6, a -> d is 5
        RingFreeOrder x = Check.of(FIVE + ";arrow a c;arrow c e;arrow b d;arrow a d");
        Check.same("24: length", x.length(), 9);
        Check.same("25: tight", x.tight(), 1 | 4 | 16);
        Check.same("11: slack of b", x.group(1, 7), 3);
        Check.same("11: slack of d", x.group(3, 7), 3);
        Check.same("11: begin of d", x.group(3, 6), 2);
        Check.same("11: level of e", x.group(4, 5), 2);
        Check.same("24: alone", new RingFreeOrder().length(), 1);
        RingFreeOrder y = grouped();
        Check.same("24: with a group", y.length(), 15);
        Check.same("25: heads", y.tight(), 1 | 2 | 16);
        Check.same("26: gap", y.gap() + x.gap(), 0);
        chainsAnew();
        // level counts groups, begin counts hours
        RingFreeOrder z = Check.of("task a 9;task b 1;task c 1;task d 1;arrow a d;arrow b c;arrow c d");
        Check.same("11: level", z.group(3, 5), 2);
        Check.same("11: begin", z.group(3, 6), 9);
        Check.same("11: slack", z.group(1, 7), 7);
    }

    /** What was measured ahead of a change does not show behind it, also where the numbers become less. */
    private static void chainsAnew() {
        RingFreeOrder x = Check.of("task a 9;task b 1;task c 1;arrow a b;arrow b c");
        int[][] due = {{11, 2, 10, 0, 0}, {9, 1, 1, 7, 7}, {9, 0, 0, 8, 8}, {5, 0, 0, 4, 4}};
        for (int step = 0; step < due.length; step++) {
            if (step == 1 || step == 2) {
                x.cut(0);
            } else if (step == 3) {
                x.setHours(0, 5);
            }
            int[] got = {x.length(), x.group(2, 5), x.group(2, 6), x.group(1, 7), x.group(2, 7)};
            for (int k = 0; k < got.length; k++) {
                Check.same("11, 24: step " + step + ", number " + k, got[k], due[step][k]);
            }
            Check.same("25: step " + step, x.tight(), step == 0 ? 7 : 1);
        }
    }

    private static void weakestAndNeedless() {
        RingFreeOrder x = grouped();
        Check.same("27: lowest of three", x.weakest(), 1);
        Check.same("28: d e, c e, each alone", x.needless(), 2);
        Check.same("27: none", Check.of(FIVE + ";arrow a b").weakest(), NONE);
        Check.same("28: none", Check.of(FIVE + ";arrow a b;arrow b c").needless(), 0);
        // a b c ring and b d, d b: cutting a b leaves (b+d) a c; cutting b d leaves (a+b+c) d
        RingFreeOrder y = Check.of(FIVE + ";join 1;arrow b d;arrow d b;arrow a b;arrow b c;arrow c a");
        Check.same("27: three of one", y.weakest(), 2);
        y.add(0, 2);
        Check.same("27: a c is another way", y.weakest(), 4);
        RingFreeOrder z = Check.of("task a 1;task b 1;task c 1;join 1;arrow a b;arrow b a;arrow b c;arrow c b;arrow a c;arrow c a");
        Check.same("27: no cut parts it", z.weakest(), NONE);
        Check.same("28: each alone", z.needless(), 6);
    }

    private static void accounts() {
        RingFreeOrder x = Check.of(FIVE + ";arrow b d;arrow c e");
        Check.same("29: none", Check.accounts(x), "0 0 0 0 0 0 0 0 0");
        x.add(4, 1);
        Check.same("29: repair", Check.accounts(x), "1 0 1 4 2 4 0 0 0");
        x.set(1, 1);
        x.add(3, 2);
        Check.same("29: order", Check.order(x), "a (b+c+d+e)");
        Check.same("29: joined", Check.accounts(x), "2 0 2 8 8 5 4 0 0");
        x.add(0, 1);
        x.swap(0);
        Check.same("29: no repair", Check.accounts(x), "3 0 2 8 8 5 4 0 0");
        x.cut(4);
        x.swap(0);
        Check.same("29: cut, swapped", Check.accounts(x), "3 1 2 8 8 5 4 0 1");
        x.cut(0);
        Check.same("29: fell apart", Check.accounts(x), "3 2 2 8 8 5 4 4 1");
        x.undo();
        x.undo();
        Check.same("29: taken back", Check.accounts(x), "3 1 2 8 8 5 4 0 0");
        Check.argument("29: 9", () -> x.account(9));
        Check.argument("29: -1", () -> x.account(-1));
        RingFreeOrder y = Check.of("task a 1;task b 1;task c 1;join 1;arrow a b;arrow b a;arrow b c;arrow c a;arrow a c");
        y.cut(1);
        Check.same("29: did not fall apart", Check.accounts(y), "0 1 0 0 0 0 0 0 0");
    }

    private static void shares() {
        Check.same("30: none", Float.floatToIntBits(new RingFreeOrder().innerShare()), Float.floatToIntBits(0.0f));
        Check.same("30: half", Float.floatToIntBits(grouped().innerShare()), Float.floatToIntBits(3.0f / 6.0f));
        RingFreeOrder x = Check.of(FIVE + ";join 1;arrow a b;arrow b a;arrow b c");
        Check.same("30: two thirds", Float.floatToIntBits(x.innerShare()), Float.floatToIntBits(2.0f / 3.0f));
        Check.same("31: none", Double.doubleToLongBits(x.meanMoved()), Double.doubleToLongBits(0.0));
        x.add(3, 2);
        x.add(4, 1);
        x.add(4, 3);
        Check.same("31: mean", Double.doubleToLongBits(x.meanMoved()), Double.doubleToLongBits(5.0 / 2.0));
    }

    private static void make() {
        RingFreeOrder x = new RingFreeOrder();
        Check.give(x, "abcdef");
        Check.same("32: number", x.make(9), 1);
        Check.same("32: state", Check.snapshot(x), "a abcdef mode 0 join 0 hours 1 9 arrows accounts 0 0 0 0 0 0 0 0 0");
        Check.same("32: buffer is emptied", x.append(0, 0, 0, 0, 0), 20);
        String[] bad = {"", "abcdefg", " b", "b ", "B", "b1", "1", "b;", "\u0080", "\u0000"};
        for (String name : bad) {
            Check.give(x, name);
            Check.same("32: no NAME " + name, x.make(1), -8);
            Check.same("32: buffer stays", x.append(0, 0, 0, 0, 0), 20 + name.length());
        }
        Check.give(x, "a");
        Check.same("32: taken", x.make(1), -7);
        Check.argument("32: hours 0", () -> x.make(0));
        Check.argument("32: hours 10", () -> x.make(10));
        Check.same("32: buffer stays", x.append(0, 0, 0, 0, 0), 21);
        Check.same("32: one change", x.size(8), 1);
        Check.same("32: taken back", x.undo(), 0);
        Check.same("32: without it", Check.order(x), "a");
        for (int t = 1; t < 24; t++) {
            Check.give(x, "" + (char) ('a' + t));
            Check.same("32: number", x.make(1), t);
        }
        Check.give(x, "z");
        Check.same("32: 24 tasks", x.make(1), -6);
        Check.give(x, "a");
        Check.same("32: 24 tasks and taken", x.make(1), -6);
        Check.give(x, "A");
        Check.same("32: 24 tasks and no NAME", x.make(1), -8);
        Check.same("32: all", Check.order(x), "a b c d e f g h i j k l m n o p q r s t u v w x");
    }

    private static void addRefusals() {
        RingFreeOrder x = Check.of(FIVE + ";arrow a b;arrow b c");
        String before = Check.snapshot(x);
        Check.same("33: same", x.add(0, 0), -1);
        Check.same("33: known", x.add(0, 1), -2);
        Check.same("33: ring", x.add(2, 0), -4);
        Check.index("33: from", () -> x.add(5, 5));
        Check.index("33: to", () -> x.add(0, -1));
        Check.same("33: nothing changes", Check.snapshot(x), before);
        Check.same("33: no change", x.size(8), 0);
        Check.same("33: nothing to repair", x.add(0, 4), 0);
        Check.same("33: state", Check.snapshot(x),
                "a b c d e mode 0 join 0 hours 1 2 3 4 5 arrows 0>1 1>2 0>4 accounts 1 0 0 0 0 0 0 0 0");
        RingFreeOrder y = Samples.full();
        Check.same("33: full", y.add(0, 23), -3);
        Check.same("33: full and ring", y.add(23, 0), -3);
        Check.same("33: full and known", y.add(0, 1), -2);
        Check.same("33: full and same", y.add(0, 0), -1);
    }

    private static void repairModes() {
        // order a b c d e f g; arrow f b: BEHIND b d, AHEAD c f, neither e
        String net = FIVE + ";task f 6;task g 7;arrow b d;arrow c f;arrow a f;arrow d g";
        String[] due = {"a c f b e d g", "a c e f b d g", "a c f b d e g"};
        int[] moved = {4, 5, 5};
        for (int mode = 0; mode < 3; mode++) {
            RingFreeOrder x = Check.of(net + ";mode " + mode);
            Check.same("17: looked " + mode, x.trial(5, 1, 4), 4);
            Check.same("19: best " + mode, x.bestMode(5, 1), 0);
            int foretold = x.trial(5, 1, 5);
            int got = x.add(5, 1);
            Check.same("33: order " + mode, Check.order(x), due[mode]);
            Check.same("33: foretold " + mode, foretold, got);
            Check.same("33: moved " + mode, got, moved[mode]);
            Check.same("26: gap " + mode, x.gap(), 0);
        }
    }

    private static void joinModes() {
        // order a..g; arrow f b closes b d f; BEHIND also e (from b), AHEAD also c (to f); g behind
        String net = "task a 1;task b 1;task c 1;task d 1;task e 1;task f 1;task g 1;task h 1;"
                + "arrow b d;arrow d f;arrow b e;arrow c f;arrow f h;join 1";
        // affected b c d e f: ring b d f, AHEAD alone c, BEHIND alone e, neither none
        String[] due = {"a c (b+d+f) e g h", "a c (b+d+f) e g h", "a c (b+d+f) e g h"};
        for (int mode = 0; mode < 3; mode++) {
            RingFreeOrder x = Check.of(net + ";mode " + mode);
            Check.same("33: moved with a ring " + mode, x.add(5, 1), 3);
            Check.same("33: order with a ring " + mode, Check.order(x), due[mode]);
            Check.same("29: joined " + mode, x.account(6), 3);
            Check.same("33: places of the joined " + mode, x.task(5, 2), 2);
            Check.same("9: head of the joined " + mode, x.task(5, 1), 1);
        }
    }

    private static void vanishingPlaces() {
        // order a b c d e f; arrow e a closes a c e; neither b d; the place behind the first vanishes
        String net = FIVE + ";task f 1;arrow a c;arrow c e;join 1";
        String[] due = {"(a+c+e) b d f", "b d (a+c+e) f", "(a+c+e) b d f"};
        int[] moved = {2, 3, 2};
        for (int mode = 0; mode < 3; mode++) {
            RingFreeOrder x = Check.of(net + ";mode " + mode);
            int got = x.add(4, 0);
            Check.same("33: order with gaps " + mode, Check.order(x), due[mode]);
            // a joined group counts always; b stays at 1 where the group comes first, d comes nearer
            Check.same("33: moved with gaps " + mode, got, moved[mode]);
        }
        // order a..f; arrow e b closes b e; AHEAD alone a is not in the part; BEHIND alone d, neither c
        RingFreeOrder y = Check.of(FIVE + ";task f 1;arrow b e;arrow b d;join 1");
        Check.same("33: last places to those BEHIND", y.add(4, 1), 1);
        Check.same("33: order, last places", Check.order(y), "a (b+e) c d f");
    }

    private static void cut() {
        RingFreeOrder x = grouped();
        Check.same("34: not inner", x.cut(0), 0);
        Check.same("34: numbers become less", x.arrowOf(1, 2), 0);
        Check.same("34: order stays", Check.order(x), "a (b+c+d) e");
        Check.same("34: falls apart", x.cut(1), 3);
        Check.same("34: placed", Check.order(x), "a d b c e");
        Check.same("34: arrows", x.size(1), 4);
        Check.index("34: arrow 4", () -> x.cut(4));
        Check.index("34: arrow -1", () -> x.cut(-1));
        Check.same("34: taken back", x.undo(), 1);
        Check.same("34: group again", Check.order(x), "a (b+c+d) e");
        RingFreeOrder y = Check.of("task a 1;task b 1;task c 1;task d 1;task e 1;join 1;"
                + "arrow e d;arrow d e;arrow d b;arrow b d;arrow e a;arrow a e;arrow c d;arrow d c");
        Check.same("34: one group", Check.order(y), "(a+b+c+d+e)");
        Check.same("34: stays", y.cut(y.arrowOf(3, 2)), 2);
        Check.same("34: least HEAD among the free", Check.order(y), "c (a+b+d+e)");
        Check.same("34: into two", y.cut(y.arrowOf(3, 4)), 2);
        Check.same("34: two groups", Check.order(y), "c (a+e) (b+d)");
        y.add(0, 3);
        RingFreeOrder z = Check.of("task a 1;task b 1;task c 1;join 1;arrow a b;arrow b c;arrow c a;arrow b a");
        Check.same("34: did not fall apart", z.cut(3), 1);
    }

    private static void swap() {
        RingFreeOrder x = Check.of(FIVE + ";arrow b c");
        Check.same("35: head", x.swap(0), 1);
        Check.same("35: order", Check.order(x), "b a c d e");
        Check.same("35: once more", x.swap(1), 2);
        Check.same("35: refused", x.swap(0), -5);
        Check.same("35: last", x.swap(3), 4);
        Check.same("35: order", Check.order(x), "b c a e d");
        Check.index("35: place 4", () -> x.swap(4));
        Check.index("35: place -1", () -> x.swap(-1));
        Check.same("35: changes", x.size(8), 3);
        Check.index("35: alone", () -> new RingFreeOrder().swap(0));
        RingFreeOrder y = grouped();
        Check.same("35: groups refused", y.swap(1), -5);
        y.cut(0);
        Check.same("35: groups", y.swap(0), 1);
        Check.same("35: order of groups", Check.order(y), "(b+c+d) a e");
        Check.same("35: place of a member", y.task(3, 2), 0);
    }

    private static void setHours() {
        RingFreeOrder x = Check.of(FIVE);
        Check.same("36: before", x.setHours(2, 9), 3);
        Check.same("36: now", x.task(2, 0), 9);
        Check.same("36: same again", x.setHours(2, 9), 9);
        Check.same("36: changes", x.size(8), 2);
        Check.index("36: task 5", () -> x.setHours(5, 0));
        Check.index("36: task -1", () -> x.setHours(-1, 1));
        Check.argument("36: hours 0", () -> x.setHours(0, 0));
        Check.argument("36: hours 10", () -> x.setHours(0, 10));
        Check.same("36: no change", x.size(8), 2);
    }

    private static void set() {
        RingFreeOrder x = grouped();
        Check.same("37: mode", x.set(0, 2), 0);
        Check.same("37: mode again", x.set(0, 1), 2);
        Check.same("37: join", x.set(1, 0), 1);
        Check.same("37: mode now", x.size(3), 1);
        Check.same("37: join now", x.size(4), 0);
        Check.same("37: groups stay", Check.order(x), "a (b+c+d) e");
        Check.argument("37: mode 3", () -> x.set(0, 3));
        Check.argument("37: mode -1", () -> x.set(0, -1));
        Check.argument("37: join 2", () -> x.set(1, 2));
        Check.argument("37: join -1", () -> x.set(1, -1));
        Check.argument("37: what 2", () -> x.set(2, 0));
        Check.argument("37: what -1", () -> x.set(-1, 0));
        Check.same("37: changes", x.size(8), 3);
    }

    private static void refresh() {
        RingFreeOrder x = Check.of(FIVE + ";arrow e a");
        Check.same("38: order ahead", Check.order(x), "e b c d a");
        Check.same("38: moved", x.refresh(), 4);
        Check.same("38: order", Check.order(x), "b c d e a");
        Check.same("38: nothing moves", x.refresh(), 0);
        Check.same("38: changes", x.size(8), 2);
        Check.same("38: no account", Check.accounts(x), "0 0 0 0 0 0 0 0 0");
        x.undo();
        x.undo();
        Check.same("38: taken back", Check.order(x), "e b c d a");
    }

    private static void writing() {
        RingFreeOrder x = Check.of("task abcdef 1;task b 2;task c 3;join 1;arrow c abcdef;arrow abcdef c;arrow c b");
        Check.same("39: length", x.writeOrder(), 12);
        Check.same("39: text", Check.output(x), "(abcdef+c) b");
        Check.same("40: length", x.writeArrows(2), 10);
        Check.same("40: text", Check.output(x), "=abcdef >b");
        Check.same("41: first", x.outputByte(0), '=');
        Check.same("41: last", x.outputByte(9), 'b');
        Check.same("41: behind", x.outputByte(10), NONE);
        Check.same("41: negative", x.outputByte(-1), NONE);
        Check.same("41: great", x.outputByte(Integer.MAX_VALUE), NONE);
        Check.index("40: task 3", () -> x.writeArrows(3));
        Check.index("40: task -1", () -> x.writeArrows(-1));
        Check.same("40: stays", Check.output(x), "=abcdef >b");
        Check.same("40: none", x.writeArrows(1), 0);
        Check.same("41: none", x.outputByte(0), NONE);
    }

    private static void undo() {
        RingFreeOrder x = new RingFreeOrder();
        for (int k = 1; k <= 9; k++) {
            x.setHours(0, k);
        }
        x.setHours(0, 1);
        Check.same("42: eight", x.size(8), 8);
        Check.order(x);
        Check.give(x, "xyz");
        for (int k = 7; k >= 0; k--) {
            Check.same("42: left", x.undo(), k);
            Check.same("42: hours", x.task(0, 0), k + 2);
        }
        Check.same("42: none", x.undo(), NONE);
        Check.same("42: nothing changes", x.task(0, 0), 2);
        Check.same("42: output stays", Check.output(x), "a");
        Check.same("42: buffer stays", x.make(1), 1);
        RingFreeOrder y = Check.of(FIVE);
        String before = Check.snapshot(y);
        y.set(1, 1);
        y.add(1, 0);
        y.add(0, 1);
        y.cut(0);
        y.swap(2);
        y.refresh();
        Check.give(y, "new");
        y.make(1);
        Check.run(y, "hours new 3;");
        y.save();
        for (int k = 0; k < 8; k++) {
            y.undo();
        }
        Check.same("42: all kinds", Check.snapshot(y), before);
        Check.same("42: saved stays", y.restore(), 1);
        Check.same("42: saved", y.size(0), 6);
    }

    private static void saveAndRestore() {
        RingFreeOrder x = Check.of(FIVE + ";arrow b a");
        x.add(2, 0);
        x.set(0, 1);
        Check.same("43: arrows", x.save(), 2);
        String saved = Check.snapshot(x);
        Check.same("43: changes stay", x.size(8), 2);
        x.set(1, 1);
        x.add(0, 1);
        x.setHours(4, 9);
        Check.give(x, "new");
        x.make(4);
        x.writeArrows(0);
        Check.give(x, "next");
        Check.errorOfOrders(x, "swap 77;");
        Check.give(x, "next");
        String output = Check.output(x);
        Check.same("44: arrows", x.restore(), 2);
        Check.same("44: output stays", Check.output(x), output);
        Check.same("44: error stays", x.errorPosition(), 5);
        Check.same("44: buffer stays", x.append(0, 0, 0, 0, 0), 24);
        Check.same("44: state", Check.snapshot(x), saved);
        Check.same("44: no change can be taken back", x.undo(), NONE);
        x.cut(0);
        Check.same("44: a copy", x.restore(), 2);
        Check.same("44: state again", Check.snapshot(x), saved);
        x.cut(0);
        Check.same("43: in place", x.save(), 1);
        x.cut(0);
        Check.same("44: the later one", x.restore(), 1);
        Check.state("44: nothing saved", () -> new RingFreeOrder().restore());
    }

    /** The longest output texts. */
    private static void limits() {
        RingFreeOrder x = new RingFreeOrder();
        Check.give(x, "task aaaaaa 1");
        x.readText();
        for (int t = 1; t < 24; t++) {
            Check.give(x, "aaaaa" + (char) ('a' + t));
            x.make(1);
        }
        x.set(1, 1);
        for (int t = 0; t < 24; t += 2) {
            x.add(t, t + 1);
            x.add(t + 1, t);
        }
        Check.same("39: the longest", x.writeOrder(), 24 * 6 + 23 + 24);
        Check.same("39: its end", Check.output(x).substring(176), "(aaaaaw+aaaaax)");
        for (int t = 2; t < 24; t++) {
            x.add(0, t);
        }
        Check.same("40: the longest", x.writeArrows(0), 23 * 7 + 22);
        Check.same("26: gap", x.gap(), 0);
        fullRing();
        fullOrder();
    }

    /** 24 tasks in one group with 60 arrows: a ring, and arrows over one and two tasks. */
    private static void fullRing() {
        String text = Samples.fullText();
        RingFreeOrder x = Check.of(text.substring(0, text.lastIndexOf(";arrow")) + ";join 1;arrow x a");
        Check.same("8: largest group", x.size(5), 24);
        Check.same("8: arrows", x.size(1), 60);
        Check.same("8: inner arrows", x.size(6), 60);
        Check.same("9: reaches all others", x.task(23, 5), 23);
        Check.same("9: is reached by all others", x.task(0, 6), 23);
        Check.same("11: all tasks", x.group(0, 4), (1 << 24) - 1);
        Check.same("11: hours", x.group(0, 2), 24);
        Check.same("15: far", x.far(0, 23), 9);
        Check.same("16: last", x.on(0, 23, 9), 23);
        Check.same("20: least", x.leastPlace(5), 0);
        Check.same("21: most", x.mostPlace(5), 0);
        Check.same("22: fresh", x.fresh(0), 0);
        Check.same("25: tight", x.tight(), 1);
        Check.same("26: gap", x.gap(), 0);
        Check.same("27: the arrow that closes it", x.weakest(), 59);
        Check.same("34: falls apart", x.cut(59), 24);
        Check.same("34: order", Check.order(x), "a b c d e f g h i j k l m n o p q r s t u v w x");
        Check.same("29: came of it", x.account(7), 24);
    }

    /** 24 groups with 60 arrows. */
    private static void fullOrder() {
        RingFreeOrder x = Samples.full();
        Check.same("9: arrows to the last", x.task(23, 4), 2);
        Check.same("20: least", x.leastPlace(23), 23);
        Check.same("21: most of the last", x.mostPlace(23), 23);
        Check.same("22: fresh", x.fresh(23), 23);
        Check.same("23: turned", x.turned(), 0);
        Check.same("24: length", x.length(), 24);
        Check.same("25: tight", x.tight(), (1 << 24) - 1);
        Check.same("11: level of the last", x.group(23, 5), 23);
        Check.same("11: begin of the last", x.group(23, 6), 23);
        Check.same("26: gap", x.gap(), 0);
        Check.same("27: none", x.weakest(), NONE);
        Check.same("28: all but those to the next", x.needless(), 37);
        Check.same("38: stays", x.refresh(), 0);
        Check.same("35: the last place", x.swap(22), -5);
        Check.index("35: behind it", () -> x.swap(23));
        x.cut(22);
        Check.same("35: w x are free", x.swap(22), 23);
    }
}
