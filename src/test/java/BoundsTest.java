import java.util.function.ObjIntConsumer;
import java.util.function.Supplier;

/**
 * Sections 1 to 4 and 7: each bound at its last value that is allowed and at the first one that is not, on each
 * side, with what does not change then. Texts (sections 5 and 6) and promises have tests of their own.
 */
public final class BoundsTest {
    private static final int NONE = RingFreeOrder.NONE;
    private static final int[] JUST_OUT = {-1, 5, 24, 31, 32, Integer.MIN_VALUE, Integer.MAX_VALUE};

    private BoundsTest() {
    }

    public static void main(String[] args) {
        lifeOf512Calls();
        numbersOfTasks();
        numbersOfArrows();
        groupsOfOneToAll();
        modeAndJoinAtFirst();
        chainsOfOneToAll();
        nothingToRepair();
        affectedOfTwoToAll();
        outsideOfTheAffectedPart();
        joinedOfTwoToAll();
        vanishingPlaces();
        lookedCounts();
        cutsOfArrows();
        leastHeadNext();
        latestEight();
        refusedIsNoChange();
        leastReason();
        exceptionNamedFirst();
        exceptionsAheadOfRefusals();
        numbersOutOfRange();
        Check.end("BoundsTest");
    }

    // ---- what it is, and section 1 ----

    /** "An object is used for at most 512 calls after it has been made" */
    private static void lifeOf512Calls() {
        RingFreeOrder x = new RingFreeOrder();
        for (int call = 1; call <= 511; call++) {
            Check.same("call " + call, x.setHours(0, call % 9 + 1), call == 1 ? 1 : (call - 1) % 9 + 1);
        }
        Check.same("call 512", x.size(8), 8);
        RingFreeOrder y = new RingFreeOrder();
        for (int call = 1; call <= 512; call++) {
            Check.same("append and truncate, " + call, call % 2 == 1 ? y.append(0, 0, 0, 0, 0) : y.truncate(0), call % 2 * 20);
        }
    }

    /** "There are 1 to 24 tasks, numbered from 0" */
    private static void numbersOfTasks() {
        Check.same("1: least", new RingFreeOrder().size(0), 1);
        RingFreeOrder x = Check.of(Samples.all());
        Check.same("1: most", x.size(0), 24);
        Check.same("1: number of the last", x.letter(23, 0), 'x');
        Check.same("1: place of the last", x.task(23, 2), 23);
        Check.range("9: of 24", () -> Check.of(Samples.all()), 0, 23, Check.INDEX, (y, task) -> y.task(task, 0));
        Check.range("9: of one", RingFreeOrder::new, 0, 0, Check.INDEX, (y, task) -> y.task(task, 0));
    }

    /** "at most 60 arrows, likewise, each from a task to another one, at most one from the same one to the same other one" */
    private static void numbersOfArrows() {
        RingFreeOrder x = Samples.full();
        x.cut(59);
        Check.same("1: 59 arrows", x.size(1), 59);
        Check.same("33: the 60th", x.add(0, 23), 0);
        Check.same("1: 60 arrows", x.size(1), 60);
        Check.same("1: number of the last", x.arrowOf(0, 23), 59);
        Check.refused("33: the 61st", Samples::full, 3, y -> y.add(0, 23));
        Check.range("12: of 60", Samples::full, 0, 59, Check.INDEX, (y, arrow) -> y.arrow(arrow, 0));
        Check.refused("33: to itself", Samples::used, 1, y -> y.add(1, 1));
        Check.refused("33: the same", Samples::used, 2, y -> y.add(1, 0));
        RingFreeOrder z = Check.of("task a 1;task b 1;join 1;arrow a b");
        Check.same("33: the other way round is another one", z.add(1, 0), 1);
    }

    /** "Tasks that reach one another are a group; each task is in just one group, perhaps alone." HEAD is the least. */
    private static void groupsOfOneToAll() {
        RingFreeOrder x = new RingFreeOrder();
        Check.same("1: one group", x.size(2), 1);
        Check.same("1: alone", x.group(0, 1), 1);
        Check.same("1: its own HEAD", x.task(0, 1), 0);
        Check.same("1: reached one way only", Check.of("task a 1;task b 1;arrow a b").size(2), 2);
        Check.same("1: reached both ways", Check.of("task a 1;task b 1;join 1;arrow a b;arrow b a").size(2), 1);
        RingFreeOrder y = Samples.ringOf24();
        Check.same("1: all in one", y.size(2), 1);
        Check.same("1: tasks of it", y.group(0, 1), 24);
        Check.same("1: HEAD of the last", y.task(23, 1), 0);
        RingFreeOrder z = Check.of("task a 1;task b 1;task c 1;join 1;arrow c b;arrow b c");
        Check.same("1: HEAD is the least, not the first in the ring", z.task(2, 1), 1);
    }

    /** "MODE is 0 to 2 (0 at first), JOIN 0 or 1 (0 at first)." */
    private static void modeAndJoinAtFirst() {
        Check.same("1: MODE", new RingFreeOrder().size(3), 0);
        Check.same("1: JOIN", new RingFreeOrder().size(4), 0);
    }

    // ---- section 2 ----

    /** "LEVEL .. of other groups"; "BEGIN .. (0 without any)"; SLACK */
    private static void chainsOfOneToAll() {
        RingFreeOrder x = new RingFreeOrder();
        Check.same("2: LEVEL alone", x.group(0, 5), 0);
        Check.same("2: BEGIN alone", x.group(0, 6), 0);
        Check.same("2: SLACK alone", x.group(0, 7), 0);
        RingFreeOrder y = Samples.chainOf24();
        for (int p = 0; p < 24; p++) {
            Check.same("2: LEVEL " + p, y.group(p, 5), p);
            Check.same("2: BEGIN " + p, y.group(p, 6), 9 * p);
            Check.same("2: SLACK " + p, y.group(p, 7), 0);
        }
        Check.same("24: the longest there can be", y.length(), 216);
        RingFreeOrder z = Check.of("task a 9;task b 1;task c 1");
        Check.same("2: SLACK of the longest", z.group(0, 7), 0);
        Check.same("2: SLACK of others alone", z.group(1, 7), 8);
        // within a group no arrow makes a chain
        RingFreeOrder r = Check.of(Samples.RING);
        Check.same("2: LEVEL of a ring", r.group(0, 5), 0);
        Check.same("2: BEGIN of a ring", r.group(0, 6), 0);
        Check.same("2: SLACK of a ring", r.group(0, 7), 0);
    }

    // ---- section 3 ----

    /** "If its tasks are in one group, or the place of the former is lower than that of the latter, nothing is to be repaired." */
    private static void nothingToRepair() {
        RingFreeOrder x = Check.of(Samples.FIVE);
        Check.same("17: to the next place", Samples.trialOf(x, 1, 2), "0 0 0 0 0 0");
        Check.same("33: to the next place", x.add(1, 2), 0);
        Check.same("33: to the last place", x.add(1, 4), 0);
        Check.same("29: no repairs", Check.accounts(x), "2 0 0 0 0 0 0 0 0");
        Check.same("33: order", Check.order(x), "a b c d e");
        for (int join = 0; join < 2; join++) {
            RingFreeOrder y = Check.of(Samples.RING + ";task d 1");
            y.set(1, join);
            Check.same("17: in one group", Samples.trialOf(y, 1, 0), "0 0 0 0 0 0");
            Check.same("18: in one group", y.why(1, 0, 0), 0);
            Check.same("19: in one group", y.bestMode(1, 0), 0);
            Check.same("33: in one group", y.add(1, 0), 0);
            Check.same("29: no repairs in one group", Check.accounts(y), "1 0 0 0 0 0 0 0 0");
            Check.same("33: order", Check.order(y), "(a+b+c) d");
        }
    }

    /** "The affected part are the groups from the place of the latter task to that of the former one"; "(this itself counted)" */
    private static void affectedOfTwoToAll() {
        for (int mode = 0; mode < 3; mode++) {
            RingFreeOrder x = Check.of(Samples.FIVE + ";mode " + mode);
            Check.same("17: to the place ahead", Samples.trialOf(x, 2, 1), "2 1 1 0 0 2");
            Check.same("33: to the place ahead", x.add(2, 1), 2);
            Check.same("33: order", Check.order(x), "a c b d e");
            Check.same("29: repair", Check.accounts(x), "1 0 1 2 0 2 0 0 0");
            RingFreeOrder y = Check.of(Samples.all() + ";mode " + mode);
            int moved = mode == 0 ? 2 : 24;
            Check.same("17: from the last place to the first", Samples.trialOf(y, 23, 0), "24 1 1 0 0 " + moved);
            Check.same("33: from the last place to the first", y.add(23, 0), moved);
        }
    }

    /** "The order is repaired, within the affected part" */
    private static void outsideOfTheAffectedPart() {
        String[] due = {"a d c b e", "a c d b e", "a d b c e"};
        for (int mode = 0; mode < 3; mode++) {
            // a leads to d and b to e: neither is in the part from b to d as a group to be moved
            RingFreeOrder x = Check.of(Samples.FIVE + ";arrow a d;arrow b e;mode " + mode);
            Check.same("17: LOOKED, from and to groups outside", Samples.trialOf(x, 3, 1), "3 1 1 0 2 " + (mode == 0 ? 2 : 3));
            x.add(3, 1);
            Check.same("33: first and last stay", Check.order(x), due[mode]);
        }
    }

    /** "It would make a ring if a group is BEHIND and AHEAD; with JOIN 1 all that are both become one group" */
    private static void joinedOfTwoToAll() {
        for (int mode = 0; mode < 3; mode++) {
            RingFreeOrder x = Check.of("task a 1;task b 1;arrow a b;mode " + mode);
            Check.refused("33: a ring of two, JOIN 0", () -> Check.of("task a 1;task b 1;arrow a b"), 4, y -> y.add(1, 0));
            Check.same("17: a ring of two, JOIN 0", Samples.trialOf(x, 1, 0), "2 2 2 2 2 0");
            x.set(1, 1);
            Check.same("17: a ring of two, JOIN 1", Samples.trialOf(x, 1, 0), "2 2 2 2 2 1");
            Check.same("33: a ring of two", x.add(1, 0), 1);
            Check.same("29: a ring of two", Check.accounts(x), "1 0 1 2 2 1 2 0 0");
            RingFreeOrder y = Samples.chainOf24();
            y.set(0, mode);
            Check.same("17: a ring of all, JOIN 0", Samples.trialOf(y, 23, 0), "24 24 24 24 46 0");
            y.set(1, 1);
            Check.same("17: a ring of all, JOIN 1", Samples.trialOf(y, 23, 0), "24 24 24 24 46 1");
            Check.same("33: a ring of all", y.add(23, 0), 1);
            Check.same("33: one group", y.size(2), 1);
        }
    }

    /** "Places that are left over vanish; what stands behind them comes nearer." */
    private static void vanishingPlaces() {
        // a and d are joined; b and c between them stay where they are, for it is the place of d that vanishes
        RingFreeOrder x = Check.of(Samples.FIVE + ";join 1;arrow a d");
        Check.same("33: MOVED is the joined group alone", x.add(3, 0), 1);
        Check.same("33: order", Check.order(x), "(a+d) b c e");
        Check.same("33: what stands behind the part comes nearer", x.task(4, 2), 3);
        // a b d are joined: the place of b vanishes too, so c comes nearer
        RingFreeOrder y = Check.of(Samples.FIVE + ";join 1;arrow a b;arrow b d");
        Check.same("33: MOVED with one that comes nearer", y.add(3, 0), 2);
        Check.same("33: order", Check.order(y), "(a+b+d) c e");
        Check.same("33: not counted in MOVED", y.task(4, 2), 2);
        // c is BEHIND alone and has the last of the places a c e, so that of c vanishes and d comes nearer
        RingFreeOrder z = Check.of(Samples.FIVE + ";task f 1;join 1;arrow a e;arrow a c");
        Check.same("33: MOVED, BEHIND alone", z.add(4, 0), 3);
        Check.same("33: order", Check.order(z), "(a+e) b d c f");
    }

    /** LOOKED: "without the arrow that comes; one that is counted for both counts twice" */
    private static void lookedCounts() {
        // b leads to c: within the ring of b c, from BEHIND and to AHEAD
        RingFreeOrder x = Check.of(Samples.FIVE + ";join 1;arrow b c");
        Check.same("17: counted for both", x.trial(2, 1, 4), 2);
        x.add(0, 1);
        Check.same("17: to AHEAD from outside", x.trial(2, 1, 4), 3);
        x.add(2, 4);
        Check.same("17: from BEHIND to outside", x.trial(2, 1, 4), 4);
        x.add(0, 4);
        Check.same("17: neither", x.trial(2, 1, 4), 4);
        x.add(2, 1);
        Check.same("29: LOOKED", x.account(4), 4);
        Check.same("17: inner arrows are none", x.trial(3, 0, 4), 3);
    }

    // ---- section 4 ----

    /** "If an arrow that is not inner is cut, the order stays. If it is inner, its group falls apart" */
    private static void cutsOfArrows() {
        RingFreeOrder x = Check.of(Samples.FIVE + ";arrow e a");
        String before = Check.order(x);
        Check.same("34: not inner", x.cut(0), 0);
        Check.same("34: the order stays", Check.order(x), before);
        RingFreeOrder y = Check.of(Samples.RING + ";arrow b a;task d 1");
        Check.same("34: does not fall apart", y.cut(3), 1);
        Check.same("34: the group stays", Check.order(y), "(a+b+c) d");
        Check.same("29: nothing came of it", y.account(7), 0);
        RingFreeOrder z = Check.of("task a 1;task b 1;join 1;arrow a b;arrow b a;task c 1");
        Check.same("34: into two", z.cut(0), 2);
        Check.same("34: what stood behind comes behind them", Check.order(z), "b a c");
        Check.same("29: came of it", z.account(7), 2);
        RingFreeOrder all = Samples.ringOf24();
        Check.same("34: into all", all.cut(23), 24);
        Check.same("29: came of all", all.account(7), 24);
    }

    /** "of those to which no arrow leads from others of them that are not placed yet the one with the least HEAD comes next" */
    private static void leastHeadNext() {
        // a leaves the ring e b d, and c stood behind the group of all four
        RingFreeOrder x = Check.of(Samples.FIVE + ";join 1;arrow e b;arrow b d;arrow d a;arrow a e;arrow d e");
        Check.same("34: order ahead", Check.order(x), "(a+b+d+e) c");
        Check.same("34: of one, two came", x.cut(3), 2);
        Check.same("34: order", Check.order(x), "(b+d+e) a c");
        // c leads to a and b, which are free at once behind it
        RingFreeOrder z = Check.of("task a 1;task b 1;task c 1;task d 1;join 1;arrow c b;arrow c a;arrow b d;arrow a d;arrow d c");
        Check.same("34: into four", z.cut(4), 4);
        Check.same("34: of free ones the least HEAD", Check.order(z), "c a b d");
        RingFreeOrder y = Check.of("task x 1;task a 1;task b 1;task c 1;join 1;"
                + "arrow x a;arrow x b;arrow x c;arrow a x;arrow b x;arrow c x");
        y.cut(5);
        y.cut(4);
        Check.same("34: least HEAD, not least NAME or size", Check.order(y), "(x+a) b c");
    }

    // ---- section 7 ----

    /** "the latest 8 that were done" */
    private static void latestEight() {
        for (int done = 0; done <= 10; done++) {
            RingFreeOrder x = new RingFreeOrder();
            for (int k = 1; k <= done; k++) {
                x.setHours(0, k % 9 + 1);
            }
            int kept = Math.min(done, 8);
            Check.same("8: of " + done, x.size(8), kept);
            for (int left = kept - 1; left >= 0; left--) {
                Check.same("42: of " + done, x.undo(), left);
            }
            Check.same("42: oldest of " + done, x.task(0, 0), done <= 8 ? 1 : (done - 8) % 9 + 1);
            Check.same("42: no more of " + done, x.undo(), NONE);
        }
        RingFreeOrder y = new RingFreeOrder();
        for (int k = 0; k < 8; k++) {
            y.set(1, 1 - k % 2);
        }
        y.undo();
        y.setHours(0, 5);
        Check.same("8: taken back, then one more", y.size(8), 8);
        y.undo();
        Check.same("42: it was the latest", y.task(0, 0), 1);
        Check.same("42: what was taken back does not come again", y.size(4), 1);
    }

    /** "What is refused, or throws an exception, changes nothing"; it is no change, even if 8 can be taken back. */
    private static void refusedIsNoChange() {
        Supplier<RingFreeOrder> eight = () -> {
            RingFreeOrder x = Check.of("task a 1;task b 1;arrow a b");
            for (int k = 1; k <= 8; k++) {
                x.setHours(0, k);
            }
            Check.give(x, "a");
            return x;
        };
        Check.refused("33: 1", eight, 1, x -> x.add(0, 0));
        Check.refused("33: 2", eight, 2, x -> x.add(0, 1));
        Check.refused("33: 4", eight, 4, x -> x.add(1, 0));
        Check.refused("35: 5", eight, 5, x -> x.swap(0));
        Check.refused("32: 7", eight, 7, x -> x.make(1));
        Check.refused("35: no place", eight, Check.INDEX, x -> x.swap(1));
        Check.refused("34: no arrow", eight, Check.INDEX, x -> x.cut(1));
        Check.refused("36: hours", eight, Check.ARGUMENT, x -> x.setHours(0, 0));
        Check.refused("37: value", eight, Check.ARGUMENT, x -> x.set(0, 3));
        Check.refused("32: hours", eight, Check.ARGUMENT, x -> x.make(0));
        Check.refused("44: not saved", eight, Check.STATE, x -> x.restore());
    }

    /** "of several the least, but 8 ahead of 6 and 7" */
    private static void leastReason() {
        Check.refused("33: 1 and 3", Samples::full, 1, x -> x.add(5, 5));
        Check.refused("33: 2 and 3", Samples::full, 2, x -> x.add(0, 1));
        Check.refused("33: 3 and 4", Samples::full, 3, x -> x.add(23, 0));
        Check.refused("32: 6 and 7", () -> Samples.named(Samples.all(), "a"), 6, x -> x.make(1));
        Check.refused("32: 6 and 8", () -> Samples.named(Samples.all(), "abcdefg"), 8, x -> x.make(1));
        Check.refused("32: 6 and 8, nothing", () -> Samples.named(Samples.all(), ""), 8, x -> x.make(1));
        Check.refused("32: 6", () -> Samples.named(Samples.all(), "y"), 6, x -> x.make(1));
    }

    /** "If several exceptions apply, the one that is named first is thrown" */
    private static void exceptionNamedFirst() {
        for (int out : JUST_OUT) {
            Check.refused("9: both, task " + out, Samples::used, Check.INDEX, x -> x.task(out, 8));
            Check.refused("11: both, place " + out, Samples::used, Check.INDEX, x -> x.group(out, -1));
            Check.refused("17: both, from " + out, Samples::used, Check.INDEX, x -> x.trial(out, 0, 6));
            Check.refused("17: both, to " + out, Samples::used, Check.INDEX, x -> x.trial(0, out, -1));
            Check.refused("18: both, from " + out, Samples::used, Check.INDEX, x -> x.why(out, 0, -1));
            Check.refused("18: both, to " + out, Samples::used, Check.INDEX, x -> x.why(0, out, -1));
            Check.refused("36: both, task " + out, Samples::used, Check.INDEX, x -> x.setHours(out, 0));
        }
        Check.refused("12: both, arrow 6", Samples::used, Check.INDEX, x -> x.arrow(6, 4));
        Check.refused("12: both, arrow -1", Samples::used, Check.INDEX, x -> x.arrow(-1, -1));
    }

    /** "exceptions come before refusals" */
    private static void exceptionsAheadOfRefusals() {
        for (int out : JUST_OUT) {
            Check.refused("33: the same, and none such " + out, Samples::used, Check.INDEX, x -> x.add(out, out));
            Check.refused("17: the same, and none such " + out, Samples::used, Check.INDEX, x -> x.trial(out, out, 0));
            Check.refused("18: the same, and none such " + out, Samples::used, Check.INDEX, x -> x.why(out, out, 0));
            Check.refused("19: the same, and none such " + out, Samples::used, Check.INDEX, x -> x.bestMode(out, out));
        }
        Check.refused("33: full, and none such", Samples::full, Check.INDEX, x -> x.add(0, 24));
        Check.refused("17: refused, and what", Samples::full, Check.ARGUMENT, x -> x.trial(5, 5, 6));
        Check.refused("18: refused, and depth", Samples::full, Check.ARGUMENT, x -> x.why(5, 5, -1));
        Check.refused("32: taken, and hours", () -> Samples.named(Samples.all(), "a"), Check.ARGUMENT, x -> x.make(10));
        Check.refused("32: no NAME, and hours", () -> Samples.named(Samples.all(), "A"), Check.ARGUMENT, x -> x.make(0));
    }

    /** "Throws .. if there is no such task", "if what is out of range", for each method that asks a number of its caller. */
    private static void numbersOutOfRange() {
        indexes("9", 4, (x, v) -> x.task(v, 0));
        indexes("10", 4, (x, v) -> x.letter(v, 0));
        indexes("13: from", 4, (x, v) -> x.arrowOf(v, 0));
        indexes("13: to", 4, (x, v) -> x.arrowOf(0, v));
        indexes("14: from", 4, (x, v) -> x.reaches(v, 0));
        indexes("14: to", 4, (x, v) -> x.reaches(0, v));
        indexes("15: from", 4, (x, v) -> x.far(v, 0));
        indexes("15: to", 4, (x, v) -> x.far(0, v));
        indexes("16: from", 4, (x, v) -> x.on(v, 0, 0));
        indexes("16: to", 4, (x, v) -> x.on(0, v, 0));
        indexes("17: from", 4, (x, v) -> x.trial(v, 0, 0));
        indexes("17: to", 4, (x, v) -> x.trial(0, v, 0));
        indexes("18: from", 4, (x, v) -> x.why(v, 0, 0));
        indexes("18: to", 4, (x, v) -> x.why(0, v, 0));
        indexes("19: from", 4, (x, v) -> x.bestMode(v, 0));
        indexes("19: to", 4, (x, v) -> x.bestMode(0, v));
        indexes("20", 4, (x, v) -> x.leastPlace(v));
        indexes("21", 4, (x, v) -> x.mostPlace(v));
        indexes("33: from", 4, (x, v) -> x.add(v, 0));
        indexes("33: to", 4, (x, v) -> x.add(0, v));
        indexes("36", 4, (x, v) -> x.setHours(v, 1));
        indexes("40", 4, (x, v) -> x.writeArrows(v));
        // three groups of five tasks, six arrows
        indexes("11: place", 2, (x, v) -> x.group(v, 0));
        indexes("22: place", 2, (x, v) -> x.fresh(v));
        indexes("35: place", 1, (x, v) -> x.swap(v));
        indexes("12: arrow", 5, (x, v) -> x.arrow(v, 0));
        indexes("34: arrow", 5, (x, v) -> x.cut(v));
        arguments("8: what", 0, 8, (x, v) -> x.size(v));
        arguments("9: what", 0, 7, (x, v) -> x.task(0, v));
        arguments("11: what", 0, 7, (x, v) -> x.group(0, v));
        arguments("12: what", 0, 3, (x, v) -> x.arrow(0, v));
        arguments("17: what", 0, 5, (x, v) -> x.trial(0, 1, v));
        arguments("17: what, refused", 0, 5, (x, v) -> x.trial(0, 0, v));
        arguments("29: what", 0, 8, (x, v) -> x.account(v));
        arguments("32: hours", 1, 9, (x, v) -> x.make(v));
        arguments("36: hours", 1, 9, (x, v) -> x.setHours(4, v));
        arguments("37: MODE", 0, 2, (x, v) -> x.set(0, v));
        arguments("37: JOIN", 0, 1, (x, v) -> x.set(1, v));
        arguments("37: what", 0, 1, (x, v) -> x.set(v, 0));
        for (int out : new int[] {-1, Integer.MIN_VALUE}) {
            Check.refused("18: depth " + out, Samples::used, Check.ARGUMENT, x -> x.why(0, 1, out));
        }
    }

    private static void indexes(String what, int most, ObjIntConsumer<RingFreeOrder> call) {
        Check.range(what, Samples::used, 0, most, Check.INDEX, call);
    }

    private static void arguments(String what, int least, int most, ObjIntConsumer<RingFreeOrder> call) {
        Check.range(what, Samples::used, least, most, Check.ARGUMENT, call);
    }
}
