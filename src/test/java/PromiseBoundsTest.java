import java.util.function.Supplier;

/**
 * Promises 8 to 44, beside the ranges of their arguments: each bound at its last value that is allowed and at the
 * first one that is not, with what does not change then.
 */
public final class PromiseBoundsTest {
    private static final int NONE = RingFreeOrder.NONE;

    private PromiseBoundsTest() {
    }

    public static void main(String[] args) {
        sizes();
        tasks();
        letters();
        groups();
        arrows();
        arrowsWithoutAny();
        arrowsFromTo();
        trialOfRefused();
        trialOfRings();
        whyOfEach();
        bestModes();
        reachingItself();
        farOfEach();
        onOfEach();
        leastPlaces();
        mostPlaces();
        freshPlaces();
        turnedPairs();
        lengths();
        tightSets();
        gaps();
        weakestArrows();
        needlessArrows();
        accountsAtFirst();
        shares();
        means();
        makeNames();
        makeHours();
        makeTasks();
        addReasons();
        cutNumbers();
        swapPlaces();
        setHours();
        setNumbers();
        refreshed();
        orderTexts();
        arrowTexts();
        outputBytes();
        undoNone();
        undoLeaves();
        saved();
        restored();
        restoreWithoutSave();
        Check.end("PromiseBoundsTest");
    }

    // ---- promises 8 to 12 ----

    private static String sizesOf(RingFreeOrder x) {
        StringBuilder text = new StringBuilder();
        for (int k = 0; k <= 8; k++) {
            text.append(k == 0 ? "" : " ").append(x.size(k));
        }
        return text.toString();
    }

    private static void sizes() {
        Check.same("8: the least there can be", sizesOf(new RingFreeOrder()), "1 0 1 0 0 1 0 0 0");
        Check.same("8: 24 groups, 60 arrows", sizesOf(Samples.full()), "24 60 24 0 0 1 0 0 0");
        Check.same("8: one group", sizesOf(Samples.ringOf24()), "24 24 1 0 1 24 24 1 8");
        Check.same("8: used", sizesOf(Samples.used()), "5 6 3 2 0 3 4 1 3");
        StringBuilder text = new StringBuilder(Samples.all()).append(";join 1");
        for (char t = 'a'; t < 'y'; t += 2) {
            char next = (char) (t + 1);
            text.append(";arrow ").append(t).append(' ').append(next).append(";arrow ").append(next).append(' ').append(t);
        }
        Check.same("8: the most groups of two", sizesOf(Check.of(text.toString())), "24 24 12 0 1 2 24 12 0");
    }

    private static String taskOf(RingFreeOrder x, int task) {
        StringBuilder text = new StringBuilder();
        for (int k = 0; k <= 7; k++) {
            text.append(k == 0 ? "" : " ").append(x.task(task, k));
        }
        return text.toString();
    }

    private static void tasks() {
        Check.same("9: alone", taskOf(new RingFreeOrder(), 0), "1 0 0 0 0 0 0 1");
        Check.same("9: first of a chain", taskOf(Samples.chainOf24(), 0), "9 0 0 1 0 23 0 1");
        Check.same("9: last of a chain", taskOf(Samples.chainOf24(), 23), "9 23 23 0 1 0 23 1");
        Check.same("9: in a ring, itself not counted", taskOf(Samples.ringOf24(), 11), "1 0 0 1 1 23 23 1");
        RingFreeOrder x = Check.of(Samples.all());
        for (int t = 1; t < 24; t++) {
            x.add(0, t);
        }
        Check.same("9: the most arrows from it", taskOf(x, 0), "1 0 0 23 0 23 0 1");
        RingFreeOrder y = Check.of(Samples.all());
        for (int t = 0; t < 23; t++) {
            y.add(t, 23);
        }
        Check.same("9: the most arrows to it", taskOf(y, 23), "1 23 23 0 23 0 23 1");
    }

    /** "index: 0 for the first letter"; "NONE if there is none" */
    private static void letters() {
        String[] names = {"a", "zz", "abc", "abcd", "zyxwv", "abcdef"};
        for (String name : names) {
            RingFreeOrder x = Check.of("task " + name + " 1");
            Check.same("9: letters of " + name, x.task(0, 7), name.length());
            for (int k = 0; k < name.length(); k++) {
                Check.same("10: " + name + " " + k, x.letter(0, k), name.charAt(k));
            }
            for (int k : new int[] {-1, -8, name.length(), 6, 7, 8, 64, Integer.MIN_VALUE, Integer.MAX_VALUE}) {
                Check.same("10: " + name + " " + k, x.letter(0, k), NONE);
            }
        }
    }

    private static void groups() {
        Check.range("11: of one", RingFreeOrder::new, 0, 0, Check.INDEX, (x, p) -> x.group(p, 0));
        Check.range("11: of 24", () -> Check.of(Samples.all()), 0, 23, Check.INDEX, (x, p) -> x.group(p, 0));
        Check.range("11: all joined", () -> Check.of(Samples.RING), 0, 0, Check.INDEX, (x, p) -> x.group(p, 0));
        RingFreeOrder x = Samples.ringOf24();
        int[] due = {0, 24, 24, 24, (1 << 24) - 1, 0, 0, 0};
        for (int k = 0; k < due.length; k++) {
            Check.same("11: of all tasks " + k, x.group(0, k), due[k]);
        }
        int[] last = {23, 1, 1, 0, 1 << 23, 0, 0, 0};
        for (int k = 0; k < last.length; k++) {
            Check.same("11: of the last task " + k, Check.of(Samples.all()).group(23, k), last[k]);
        }
    }

    private static void arrows() {
        RingFreeOrder x = Check.of(Samples.all() + ";arrow a x");
        Check.same("12: the farthest", x.arrow(0, 3), 23);
        Check.same("12: not inner", x.arrow(0, 2), 0);
        RingFreeOrder y = Samples.ringOf24();
        Check.same("12: inner", y.arrow(23, 2), 1);
        Check.same("12: in one place", y.arrow(23, 3), 0);
        Check.same("12: from", y.arrow(23, 0), 23);
        Check.same("12: to", y.arrow(23, 1), 0);
    }

    /** Without arrows there is no arrow 0. */
    private static void arrowsWithoutAny() {
        for (int arrow : new int[] {0, -1, 1, 60}) {
            Check.refused("12: none, " + arrow, RingFreeOrder::new, Check.INDEX, x -> x.arrow(arrow, 0));
            Check.refused("34: none, " + arrow, RingFreeOrder::new, Check.INDEX, x -> x.cut(arrow));
        }
        RingFreeOrder x = Check.of("task a 1;task b 1;arrow a b");
        x.cut(0);
        Check.index("12: cut", () -> x.arrow(0, 0));
        Check.index("34: cut", () -> x.cut(0));
        Check.same("13: cut", x.arrowOf(0, 1), NONE);
        Check.same("14: cut", x.reaches(0, 1) ? 1 : 0, 0);
    }

    // ---- promises 13 to 19 ----

    /** "Returns its number; NONE if there is none." */
    private static void arrowsFromTo() {
        RingFreeOrder x = Samples.full();
        Check.same("13: the first", x.arrowOf(0, 1), 0);
        Check.same("13: the last", x.arrowOf(x.arrow(59, 0), x.arrow(59, 1)), 59);
        Check.same("13: none", x.arrowOf(0, 4), NONE);
        Check.same("13: the other way round", x.arrowOf(1, 0), NONE);
        Check.same("13: to itself", x.arrowOf(0, 0), NONE);
        Check.same("13: alone", new RingFreeOrder().arrowOf(0, 0), NONE);
    }

    /** "0 if the arrow would be refused, but for a ring with JOIN 0" */
    private static void trialOfRefused() {
        RingFreeOrder x = Samples.full();
        Check.same("17: refused for 1", Samples.trialOf(x, 7, 7), "0 0 0 0 0 0");
        Check.same("17: refused for 2", Samples.trialOf(x, 0, 1), "0 0 0 0 0 0");
        Check.same("17: refused for 3", Samples.trialOf(x, 0, 23), "0 0 0 0 0 0");
        Check.same("17: refused for 3, a ring too", Samples.trialOf(x, 23, 0), "0 0 0 0 0 0");
        Check.same("17: changes nothing", Check.rest(x), Check.rest(Samples.full()));
        for (int k = 0; k < 6; k++) {
            int what = k;
            Check.nothing("17: what " + k, Samples::used, y -> y.trial(4, 1, what));
            Check.nothing("17: of no ring, what " + k, () -> Check.of(Samples.FIVE + ";arrow a c"), y -> y.trial(4, 0, what));
        }
    }

    /** "then 0 to 4 are as otherwise, and 5 is 0" */
    private static void trialOfRings() {
        // arrow d b closes b c d; a leads to d, but stands ahead of the affected part
        String text = Samples.FIVE + ";arrow b c;arrow c d;arrow a d";
        RingFreeOrder x = Check.of(text);
        Check.same("17: JOIN 0", Samples.trialOf(x, 3, 1), "3 3 3 3 5 0");
        x.set(1, 1);
        Check.same("17: JOIN 1", Samples.trialOf(x, 3, 1), "3 3 3 3 5 1");
        Check.same("33: as foretold", x.add(3, 1), 1);
        Check.same("33: order", Check.order(x), "a (b+c+d) e");
    }

    private static String whyOf(RingFreeOrder x, int from, int to) {
        StringBuilder text = new StringBuilder();
        for (int depth = 0; depth <= 4; depth++) {
            text.append(depth == 0 ? "" : " ").append(x.why(from, to, depth));
        }
        return text.append(' ').append(x.why(from, to, Integer.MAX_VALUE)).toString();
    }

    /** "Returns the reason; 0 if there is none such." */
    private static void whyOfEach() {
        RingFreeOrder x = Samples.chainOf24();
        Check.same("18: not refused", whyOf(x, 0, 2), "0 0 0 0 0 0");
        Check.same("18: the same", whyOf(x, 0, 0), "1 0 0 0 0 0");
        Check.same("18: such an arrow", whyOf(x, 0, 1), "2 0 0 0 0 0");
        Check.same("18: the shortest ring", whyOf(x, 1, 0), "4 102 202 0 0 0");
        Check.same("18: the longest ring", whyOf(x, 23, 0), "4 102 224 0 0 0");
        Check.same("18: the last task", whyOf(x, 23, 22), "4 124 202 0 0 0");
        Check.same("18: back to the first task", whyOf(Check.of("task a 1;task b 1;arrow b a"), 0, 1), "4 101 202 0 0 0");
        Check.same("18: 60 arrows", whyOf(Samples.full(), 0, 23), "3 0 0 0 0 0");
        Check.same("18: 60 arrows and a ring", whyOf(Samples.full(), 23, 0), "3 0 0 0 0 0");
        x.set(1, 1);
        Check.same("18: a ring with JOIN 1", whyOf(x, 23, 0), "0 0 0 0 0 0");
        Check.same("18: changes nothing with JOIN 1", x.size(8), 1);
        Check.nothing("18", Samples::used, y -> y.why(4, 1, 2));
    }

    /** "Returns the MODE, of several the least; NONE if it would be refused." */
    private static void bestModes() {
        RingFreeOrder x = Samples.full();
        Check.same("19: refused for 1", x.bestMode(3, 3), NONE);
        Check.same("19: refused for 2", x.bestMode(0, 1), NONE);
        Check.same("19: refused for 3", x.bestMode(0, 23), NONE);
        RingFreeOrder y = Check.of("task a 1;task b 1;task c 1;arrow a b");
        Check.same("19: refused for 4", y.bestMode(1, 0), NONE);
        y.set(1, 1);
        Check.same("19: not refused with JOIN 1", y.bestMode(1, 0), 0);
        // a d h are joined, b e f BEHIND alone, c g neither: 5, 4 and 4 MOVED
        RingFreeOrder w = Check.of(Samples.FIVE + ";task f 1;task g 1;task h 1;join 1;"
                + "arrow a d;arrow d h;arrow a b;arrow a e;arrow a f");
        Check.same("19: of MODE 1 and 2 the least", w.bestMode(7, 0), 1);
        for (int mode = 0; mode <= 2; mode++) {
            w.set(0, mode);
            Check.same("17: MOVED by MODE " + mode, w.trial(7, 0, 5), mode == 0 ? 5 : 4);
            Check.same("19: whatever MODE is", w.bestMode(7, 0), 1);
        }
        Check.same("19: nothing to be repaired", y.bestMode(0, 2), 0);
        Check.nothing("19", Samples::used, z -> z.bestMode(4, 1));
        Check.nothing("19: of no ring", () -> Check.of(Samples.FIVE + ";arrow a c;mode 2"), z -> z.bestMode(4, 0));
    }

    /** "(a task reaches itself)" */
    private static void reachingItself() {
        for (RingFreeOrder x : new RingFreeOrder[] {new RingFreeOrder(), Samples.full(), Samples.ringOf24()}) {
            for (int t = 0; t < x.size(0); t++) {
                Check.same("14: itself", x.reaches(t, t) ? 1 : 0, 1);
                Check.same("15: to itself", x.far(t, t), 0);
                Check.same("16: to itself, 0", x.on(t, t, 0), t);
                Check.same("16: to itself, 1", x.on(t, t, 1), NONE);
            }
        }
    }

    /** "0 to itself; NONE if there is none" */
    private static void farOfEach() {
        RingFreeOrder x = Samples.chainOf24();
        Check.same("15: the longest", x.far(0, 23), 23);
        Check.same("15: the next one", x.far(0, 1), 1);
        Check.same("15: none", x.far(1, 0), NONE);
        Check.same("15: round", Samples.ringOf24().far(1, 0), 23);
        Check.same("14: none", x.reaches(1, 0) ? 1 : 0, 0);
        Check.same("14: the longest", x.reaches(0, 23) ? 1 : 0, 1);
    }

    /** "NONE if there is none such" */
    private static void onOfEach() {
        RingFreeOrder x = Samples.chainOf24();
        for (int k = 0; k < 24; k++) {
            Check.same("16: the longest " + k, x.on(0, 23, k), k);
        }
        for (int k : new int[] {-1, 24, 25, Integer.MIN_VALUE, Integer.MAX_VALUE}) {
            Check.same("16: index " + k, x.on(0, 23, k), NONE);
            Check.same("16: to itself, index " + k, x.on(5, 5, k), NONE);
            Check.same("16: no way, index " + k, x.on(23, 0, k), NONE);
        }
        Check.same("16: no way, index 0", x.on(23, 0, 0), NONE);
        Check.same("16: no way, index 1", x.on(23, 0, 1), NONE);
    }

    // ---- promises 20 to 23 ----

    private static void leastPlaces() {
        Check.same("20: alone", new RingFreeOrder().leastPlace(0), 0);
        Check.same("20: without arrows", Check.of(Samples.all()).leastPlace(23), 0);
        Check.same("20: in a chain", Samples.chainOf24().leastPlace(23), 23);
        Check.same("20: one step", Check.of(Samples.FIVE + ";arrow c e").leastPlace(4), 3);
        Check.same("20: arrows from it count nothing", Check.of(Samples.FIVE + ";arrow d e").leastPlace(3), 0);
        Check.same("20: arrows within it count nothing", Check.of(Samples.RING).leastPlace(2), 0);
        Check.nothing("20", Samples::used, x -> x.leastPlace(4));
    }

    private static void mostPlaces() {
        Check.same("21: alone", new RingFreeOrder().mostPlace(0), 0);
        Check.same("21: without arrows", Check.of(Samples.all()).mostPlace(0), 23);
        Check.same("21: in a chain", Samples.chainOf24().mostPlace(0), 0);
        Check.same("21: one step", Check.of(Samples.FIVE + ";arrow a c").mostPlace(0), 1);
        Check.same("21: arrows to it count nothing", Check.of(Samples.FIVE + ";arrow a b").mostPlace(1), 4);
        Check.same("21: arrows within it count nothing", Check.of(Samples.RING + ";task d 1").mostPlace(0), 1);
        Check.nothing("21", Samples::used, x -> x.mostPlace(1));
    }

    private static void freshPlaces() {
        Check.range("22: of one", RingFreeOrder::new, 0, 0, Check.INDEX, (x, p) -> x.fresh(p));
        Check.range("22: of 24", () -> Check.of(Samples.all()), 0, 23, Check.INDEX, (x, p) -> x.fresh(p));
        Check.range("22: all joined", () -> Check.of(Samples.RING), 0, 0, Check.INDEX, (x, p) -> x.fresh(p));
        Check.nothing("22", () -> Check.of(Samples.FIVE + ";arrow e a"), x -> x.fresh(0));
    }

    /** Of 24 groups none to all 276 pairs. */
    private static void turnedPairs() {
        Check.same("23: alone", new RingFreeOrder().turned(), 0);
        Check.same("23: as fresh", Check.of(Samples.all()).turned(), 0);
        RingFreeOrder x = Check.of("task a 1;task b 1");
        x.swap(0);
        Check.same("23: one pair, all of two groups", x.turned(), 1);
        x.swap(0);
        Check.same("23: swapped back", x.turned(), 0);
        Check.same("23: all pairs of 24", Samples.backwards().turned(), 276);
        Check.nothing("23", Samples::backwards, y -> y.turned());
    }

    // ---- promises 24 to 31 ----

    private static void lengths() {
        Check.same("24: alone", new RingFreeOrder().length(), 1);
        Check.same("24: without arrows", Check.of(Samples.FIVE).length(), 5);
        Check.same("24: one group of all", Samples.ringOf24().length(), 24);
        Check.nothing("24", Samples::used, x -> x.length());
    }

    private static void tightSets() {
        Check.same("25: alone", new RingFreeOrder().tight(), 1);
        Check.same("25: one of five", Check.of(Samples.FIVE).tight(), 16);
        Check.same("25: all", Samples.chainOf24().tight(), (1 << 24) - 1);
        Check.same("25: all alike", Check.of(Samples.all()).tight(), (1 << 24) - 1);
        Check.same("25: HEAD alone", Samples.ringOf24().tight(), 1);
    }

    /** "(which is 0)" */
    private static void gaps() {
        RingFreeOrder[] several = {new RingFreeOrder(), Samples.used(), Samples.full(), Samples.fullWithRing(), Samples.ringOf24(),
            Samples.chainOf24(), Samples.backwards(), Check.of(Samples.all())};
        for (RingFreeOrder x : several) {
            Check.same("26", x.gap(), 0);
        }
    }

    /** "the lowest one of several; NONE if no cut would part a group" */
    private static void weakestArrows() {
        Check.same("27: without arrows", new RingFreeOrder().weakest(), NONE);
        Check.same("27: without inner arrows", Samples.full().weakest(), NONE);
        Check.same("27: no cut parts it", Check.of(Samples.RING + ";arrow a c;arrow c b;arrow b a").weakest(), NONE);
        Check.same("27: into two, the least that counts", Check.of("task a 1;task b 1;join 1;arrow a b;arrow b a").weakest(), 0);
        Check.same("27: the lowest of 24", Samples.ringOf24().weakest(), 0);
        Check.same("27: into three ahead of lower ones into two", Samples.used().weakest(), 2);
        Check.same("27: behind one that is not inner",
                Check.of("task a 1;task b 1;task c 1;join 1;arrow a b;arrow b c;arrow c b").weakest(), 1);
        Check.nothing("27", Samples::used, x -> x.weakest());
    }

    private static void needlessArrows() {
        Check.same("28: without arrows", new RingFreeOrder().needless(), 0);
        Check.same("28: none of a chain", Samples.chainOf24().needless(), 0);
        Check.same("28: none of a ring", Samples.ringOf24().needless(), 0);
        Check.same("28: each looked at alone", Check.of(Samples.RING + ";arrow a c;arrow c b;arrow b a").needless(), 6);
        Check.nothing("28", Samples::used, x -> x.needless());
    }

    private static void accountsAtFirst() {
        for (int k = 0; k <= 8; k++) {
            Check.same("29: " + k, new RingFreeOrder().account(k), 0);
        }
        RingFreeOrder x = Check.of(Samples.FIVE);
        x.add(1, 1);
        Check.same("29: a refused arrow did not come", x.account(0), 0);
        x.add(0, 1);
        x.swap(0);
        Check.same("29: a refused swap is none", x.account(8), 0);
        x.refresh();
        Check.same("29: refresh is no repair", Check.accounts(x), "1 0 0 0 0 0 0 0 0");
    }

    /** "0.0f without arrows" */
    private static void shares() {
        Check.same("30: without arrows", Float.floatToIntBits(new RingFreeOrder().innerShare()), Float.floatToIntBits(0.0f));
        Check.same("30: none inner", Float.floatToIntBits(Samples.full().innerShare()), Float.floatToIntBits(0.0f));
        Check.same("30: all inner", Float.floatToIntBits(Samples.ringOf24().innerShare()), Float.floatToIntBits(1.0f));
        Check.same("30: four of six", Float.floatToIntBits(Samples.used().innerShare()), Float.floatToIntBits(4.0f / 6.0f));
    }

    /** "0.0 without repairs" */
    private static void means() {
        Check.same("31: without repairs", Double.doubleToLongBits(new RingFreeOrder().meanMoved()), Double.doubleToLongBits(0.0));
        RingFreeOrder x = Check.of(Samples.FIVE + ";arrow a b");
        x.add(1, 2);
        Check.same("31: still without", Double.doubleToLongBits(x.meanMoved()), Double.doubleToLongBits(0.0));
        x.add(4, 3);
        Check.same("31: one repair", Double.doubleToLongBits(x.meanMoved()), Double.doubleToLongBits(2.0));
        x.set(1, 1);
        x.add(1, 0);
        x.add(2, 1);
        Check.same("31: a third", Double.doubleToLongBits(x.meanMoved()), Double.doubleToLongBits(4.0 / 3.0));
        x.undo();
        Check.same("31: taken back", Double.doubleToLongBits(x.meanMoved()), Double.doubleToLongBits(3.0 / 2.0));
    }

    // ---- promises 32 to 38 ----

    /** "8 the buffer is no NAME": 1 to 6 lower-case letters; "(the buffer stays then)" */
    private static void makeNames() {
        for (String name : new String[] {"b", "z", "bb", "aa", "abcde", "abcdef", "zzzzzz", "task"}) {
            RingFreeOrder x = Samples.named("task a 1", name);
            Check.same("32: " + name, x.make(1), 1);
            Check.same("32: empties the buffer", Check.bufferLength(x), 0);
            Check.same("32: the whole of it", Check.order(x), "a " + name);
            Check.same("32: is a change", x.undo(), 0);
            Check.same("42: the buffer stays as it is", Check.bufferLength(x), 0);
        }
        for (String name : new String[] {"", "abcdefg", "aaaaaaaa", "A", "Z", "`", "{", "b ", " b", "b1", "1", ";", "b;",
                "abcde1", "abcdeF",
            "\u0000", "\u007f", "\u0080", "\u00e1", "\u00ff", "x".repeat(900)}) {
            Check.refused("32: '" + name + "'", () -> Samples.named(Samples.FIVE, name), 8, x -> x.make(1));
            Check.same("32: the buffer stays", Check.bufferLength(refusedMake(Samples.FIVE, name)), name.length());
        }
        for (String name : new String[] {"a", "e"}) {
            Check.refused("32: taken, " + name, () -> Samples.named(Samples.FIVE, name), 7, x -> x.make(1));
            Check.same("32: the buffer stays", Check.bufferLength(refusedMake(Samples.FIVE, name)), 1);
        }
        Check.same("32: not the same as a longer one", Samples.named("task ab 1", "a").make(1), 1);
    }

    private static RingFreeOrder refusedMake(String text, String name) {
        RingFreeOrder x = Samples.named(text, name);
        x.make(1);
        return x;
    }

    /** "HOURS, 1 to 9" */
    private static void makeHours() {
        for (int hours = 1; hours <= 9; hours++) {
            RingFreeOrder x = Samples.named(Samples.FIVE, "f");
            Check.same("32: number", x.make(hours), 5);
            Check.same("32: hours", x.task(5, 0), hours);
        }
        Check.range("32: hours", () -> Samples.named(Samples.FIVE, "f"), 1, 9, Check.ARGUMENT, (x, hours) -> x.make(hours));
        RingFreeOrder y = Samples.named(Samples.FIVE, "f");
        Check.argument("32: hours 0", () -> y.make(0));
        Check.same("32: the buffer stays", y.make(1), 5);
    }

    /** "6 there are 24 tasks"; "It is a group of its own, at the end of the order." */
    private static void makeTasks() {
        String most = Samples.all().substring(0, Samples.all().lastIndexOf(';'));
        RingFreeOrder x = Samples.named(most, "new");
        Check.same("32: the 24th", x.make(1), 23);
        Check.same("32: at the end", x.task(23, 2), 23);
        Check.refused("32: the 25th", () -> Samples.named(Samples.all(), "new"), 6, y -> y.make(1));
        Check.same("32: the buffer stays", Check.bufferLength(refusedMake(Samples.all(), "new")), 3);
        RingFreeOrder z = Samples.named(Samples.RING, "d");
        Check.same("32: behind a group", z.make(1), 3);
        Check.same("32: its place", z.task(3, 2), 1);
    }

    /** "Returns MOVED; refused for 1 to 4." */
    private static void addReasons() {
        Check.refused("33: 1", Samples::used, 1, x -> x.add(0, 0));
        Check.refused("33: 2", Samples::used, 2, x -> x.add(0, 2));
        Check.refused("33: 2 ahead of one group", Samples::used, 2, x -> x.add(2, 3));
        Check.refused("33: 4", Samples::used, 4, x -> x.add(4, 1));
        Check.refused("33: 3 in one group", () -> Samples.fullWithRing(), 3, x -> x.add(1, 0));
        RingFreeOrder x = Samples.used();
        Check.same("33: within a group, JOIN 0", x.add(2, 0), 0);
        Check.same("33: is a change", x.size(8), 4);
        x.set(1, 1);
        Check.same("33: a ring, JOIN 1", x.add(4, 1), 1);
        Check.same("33: all in one", Check.order(x), "(a+b+c+d+e)");
    }

    /** "the numbers of those behind it become 1 less" */
    private static void cutNumbers() {
        for (int cut = 0; cut < 60; cut++) {
            RingFreeOrder x = Samples.full();
            RingFreeOrder y = Samples.full();
            Check.same("34: not inner", x.cut(cut), 0);
            for (int arrow : new int[] {0, cut - 1, cut, cut + 1, 58}) {
                if (arrow >= 0 && arrow < 59) {
                    int before = arrow < cut ? arrow : arrow + 1;
                    Check.same("34: from " + arrow, x.arrow(arrow, 0), y.arrow(before, 0));
                    Check.same("34: to " + arrow, x.arrow(arrow, 1), y.arrow(before, 1));
                }
            }
            Check.same("34: one less", x.size(1), 59);
            Check.index("34: no last one", () -> x.arrow(59, 0));
            Check.same("34: taken back", x.undo(), 0);
            Check.same("34: as before", Check.snapshot(x), Check.snapshot(y));
        }
        Check.range("34: of 60", Samples::full, 0, 59, Check.INDEX, (x, arrow) -> x.cut(arrow));
    }

    /** "place: 0 to the number of groups, less 2"; "refused for 5" */
    private static void swapPlaces() {
        Check.range("35: of 24", () -> Check.of(Samples.all()), 0, 22, Check.INDEX, (x, place) -> x.swap(place));
        Check.range("35: of two", () -> Check.of("task a 1;task b 1"), 0, 0, Check.INDEX, (x, place) -> x.swap(place));
        for (int place : new int[] {-1, 0, 1, 22, 23}) {
            Check.refused("35: of one, " + place, RingFreeOrder::new, Check.INDEX, x -> x.swap(place));
            Check.refused("35: all joined, " + place, () -> Check.of(Samples.RING), Check.INDEX, x -> x.swap(place));
        }
        Check.refused("35: an arrow leads", Samples::used, 5, x -> x.swap(0));
        Check.refused("35: an arrow from a group", Samples::used, 5, x -> x.swap(1));
        RingFreeOrder x = Check.of("task a 1;task b 1");
        Check.same("35: HEAD at the place then", x.swap(0), 1);
        Check.same("35: HEAD 0", x.swap(0), 0);
    }

    private static void setHours() {
        for (int hours = 1; hours <= 9; hours++) {
            RingFreeOrder x = Check.of(Samples.FIVE);
            Check.same("36: before", x.setHours(4, hours), 5);
            Check.same("36: now", x.task(4, 0), hours);
            Check.same("36: is a change", x.undo(), 0);
            Check.same("36: taken back", x.task(4, 0), 5);
        }
        Check.range("36: of 24", () -> Check.of(Samples.all()), 0, 23, Check.INDEX, (x, task) -> x.setHours(task, 9));
        Check.refused("36: hours 0", Samples::used, Check.ARGUMENT, x -> x.setHours(4, 0));
        Check.refused("36: hours 10", Samples::used, Check.ARGUMENT, x -> x.setHours(4, 10));
    }

    /** "MODE 0 to 2, JOIN 0 or 1"; "Groups that there are stay, whatever JOIN is." */
    private static void setNumbers() {
        for (int mode = 0; mode <= 2; mode++) {
            RingFreeOrder x = Samples.used();
            Check.same("37: MODE before", x.set(0, mode), 2);
            Check.same("37: MODE now", x.size(3), mode);
            Check.same("37: JOIN stays", x.size(4), 0);
            Check.same("37: is a change", x.size(8), 4);
        }
        for (int join = 0; join <= 1; join++) {
            RingFreeOrder x = Samples.used();
            Check.same("37: JOIN before", x.set(1, join), 0);
            Check.same("37: JOIN now", x.size(4), join);
            Check.same("37: MODE stays", x.size(3), 2);
            Check.same("37: is a change", x.size(8), 4);
            Check.same("37: groups stay", Check.order(x), "b (a+c+d) e");
        }
        Check.refused("37: JOIN 2", Samples::used, Check.ARGUMENT, x -> x.set(1, 2));
        Check.refused("37: both out of range", Samples::used, Check.ARGUMENT, x -> x.set(2, 3));
        Check.refused("37: what 2, value 2", Samples::used, Check.ARGUMENT, x -> x.set(2, 2));
        Check.refused("37: what -1", Samples::used, Check.ARGUMENT, x -> x.set(-1, 1));
    }

    private static void refreshed() {
        Check.same("38: alone", new RingFreeOrder().refresh(), 0);
        RingFreeOrder x = Samples.backwards();
        Check.same("38: all of 24", x.refresh(), 24);
        Check.same("38: none then", x.refresh(), 0);
        Check.same("38: turned then", x.turned(), 0);
        RingFreeOrder y = Check.of(Samples.FIVE);
        y.swap(1);
        Check.same("38: two", y.refresh(), 2);
        Check.same("38: is a change", y.size(8), 2);
        Check.same("38: taken back", y.undo(), 1);
        Check.same("38: as before", Check.order(y), "a c b d e");
    }

    // ---- promises 39 to 41 ----

    private static void orderTexts() {
        RingFreeOrder x = new RingFreeOrder();
        Check.same("39: the shortest", x.writeOrder(), 1);
        Check.same("39: one of one task", Check.output(x), "a");
        Check.same("39: a group of two", Check.order(Check.of("task b 1;task a 1;join 1;arrow a b;arrow b a")), "(b+a)");
        RingFreeOrder y = Samples.longNames();
        Check.same("39: 24 alone", y.writeOrder(), 24 * 6 + 23);
        for (int t = 0; t < 24; t += 2) {
            y.add(t, t + 1);
            y.add(t + 1, t);
        }
        Check.same("39: the longest", y.writeOrder(), 24 * 6 + 23 + 24);
        Check.same("41: its last byte", y.outputByte(190), ')');
        Check.same("41: behind it", y.outputByte(191), NONE);
    }

    private static void arrowTexts() {
        RingFreeOrder x = Samples.used();
        Check.same("40: without arrows from it", x.writeArrows(4), 0);
        Check.same("40: in place of what it had", Check.output(x), "");
        Check.same("40: one", Check.arrows(x, 1), ">a");
        Check.same("40: inner and not", Check.arrows(x, 3), "=a >e");
        RingFreeOrder y = Samples.longNames();
        for (int t = 23; t > 0; t--) {
            y.add(0, t);
        }
        Check.same("40: the longest", y.writeArrows(0), 23 * 7 + 22);
        Check.same("40: by number", Check.output(y).substring(0, 15), ">aaaaax >aaaaaw");
        Check.same("41: its last byte", y.outputByte(182), 'b');
        Check.same("41: behind it", y.outputByte(183), NONE);
        Check.refused("40: no such task", Samples::used, Check.INDEX, z -> z.writeArrows(5));
    }

    /** "Returns the byte; NONE if there is none." */
    private static void outputBytes() {
        for (int k : new int[] {Integer.MIN_VALUE, -1, 0, 1, 255, 256, Integer.MAX_VALUE}) {
            Check.same("41: nothing written, " + k, new RingFreeOrder().outputByte(k), NONE);
        }
        RingFreeOrder x = Samples.used();
        String text = Check.output(x);
        Check.same("41: text", text, "=a >e");
        for (int k = 0; k < text.length(); k++) {
            Check.same("41: " + k, x.outputByte(k), text.charAt(k));
        }
        for (int k : new int[] {Integer.MIN_VALUE, -1, text.length(), 255, 256, Integer.MAX_VALUE}) {
            Check.same("41: " + k, x.outputByte(k), NONE);
        }
        // a shorter text leaves nothing of the longer one
        x.writeOrder();
        x.writeArrows(1);
        Check.same("41: in place", Check.output(x), ">a");
    }

    // ---- promises 42 to 44 ----

    /** "NONE, and nothing changes, if there is none." */
    private static void undoNone() {
        Supplier<RingFreeOrder> fresh = () -> {
            RingFreeOrder x = Samples.used();
            x.restore();
            return x;
        };
        Check.nothing("42: none", fresh, x -> Check.same("42: none", x.undo(), NONE));
        Check.same("42: the last one", new RingFreeOrder().undo(), NONE);
    }

    /** "The input buffer, the latest error, the output text and what was saved stay." */
    private static void undoLeaves() {
        RingFreeOrder x = Samples.used();
        Check.errorOfOrders(x, "refresh;x;");
        Check.give(x, "new");
        Check.same("42: two left", x.undo(), 2);
        Check.same("42: error", Check.latestError(x), "1@8");
        Check.same("42: output", Check.output(x), "=a >e");
        Check.same("42: buffer", Check.bufferLength(x), 3);
        Check.same("42: JOIN again", x.size(4), 1);
        Check.same("42: one left", x.undo(), 1);
        Check.same("42: none left", x.undo(), 0);
        Check.same("42: hours again", x.task(0, 0), 1);
        x.cut(0);
        Check.same("42: saved", x.restore(), 6);
    }

    /** "Returns the number of arrows." */
    private static void saved() {
        Check.same("43: none", new RingFreeOrder().save(), 0);
        Check.same("43: 60", Samples.full().save(), 60);
        RingFreeOrder x = Samples.used();
        String before = Check.snapshot(x);
        Check.same("43: is no change", x.size(8), 3);
        x.save();
        Check.same("43: takes none away", x.size(8), 3);
        Check.same("43: changes nothing now", Check.snapshot(x), before);
        x.undo();
        Check.same("44: the later one", x.restore(), 6);
        Check.same("44: JOIN as saved", x.size(4), 0);
    }

    /** "Replaces everything by a copy of what was saved, which stays; no change can be taken back then." */
    private static void restored() {
        RingFreeOrder x = Samples.used();
        Check.errorOfOrders(x, "x;");
        Check.give(x, "new");
        Check.same("44: arrows", x.restore(), 6);
        Check.same("44: changes", x.size(8), 0);
        Check.same("44: none can be taken back", x.undo(), NONE);
        Check.same("44: hours", x.task(0, 0), 1);
        Check.same("44: MODE", x.size(3), 0);
        Check.same("44: JOIN", x.size(4), 1);
        Check.same("44: error stays", Check.latestError(x), "1@0");
        Check.same("44: output stays", Check.output(x), "=a >e");
        Check.same("44: buffer stays", x.make(1), 5);
        x.cut(5);
        Check.same("44: once more", x.restore(), 6);
        Check.same("44: tasks", x.size(0), 5);
        RingFreeOrder y = new RingFreeOrder();
        y.save();
        Check.give(y, "task q 1;task r 1;arrow q r");
        y.readText();
        Check.same("44: none", y.restore(), 0);
        Check.same("44: as it was", Check.snapshot(y), "a mode 0 join 0 hours 1 arrows accounts 0 0 0 0 0 0 0 0 0");
    }

    /** "Throws IllegalStateException if nothing was saved" */
    private static void restoreWithoutSave() {
        Supplier<RingFreeOrder> unsaved = () -> {
            RingFreeOrder x = Check.of(Samples.FIVE + ";arrow b a");
            x.add(2, 1);
            x.writeOrder();
            Check.give(x, "f");
            return x;
        };
        Check.refused("44: a new object", RingFreeOrder::new, Check.STATE, x -> x.restore());
        Check.refused("44: a used one", unsaved, Check.STATE, x -> x.restore());
        RingFreeOrder x = unsaved.get();
        Check.state("44: not saved", () -> x.restore());
        x.save();
        Check.same("44: saved then", x.restore(), 2);
    }
}
