import java.util.List;
import java.util.Random;
import java.util.TreeSet;

/** Long runs of calls, chosen by seeds, each answer compared with that of the model. */
public final class ModelTest {
    private static final int RUNS = 160;
    private static final int CHANGES = 150;
    /** A change takes less calls than that. */
    private static final int CHANGE = 55;
    private static final String[] NAMES = {"a", "b", "c", "d", "task", "arrow", "mode", "join", "cut", "hours", "swap", "abcdef",
        "fedcba", "aa", "ab", "ba", "bb", "ccc", "dddd", "eeeee", "zz", "y", "x", "w", "v", "u"};

    private final Random random;
    private final String run;
    private final Player player = new Player();
    private final Model m = new Model();

    private ModelTest(int seed) {
        random = new Random(seed);
        run = "run " + seed + ": ";
    }

    public static void main(String[] args) {
        for (int seed = 0; seed < RUNS; seed++) {
            ModelTest test = new ModelTest(seed);
            if (seed % 4 != 0) {
                test.begin(seed % 4);
            }
            for (int k = 0; k < CHANGES && test.player.hasRoom(CHANGE); k++) {
                test.change();
                test.lookBriefly();
                if (k % 10 == 9) {
                    test.lookAll();
                }
            }
        }
        Check.end("ModelTest");
    }

    /** The object for a look of one call. */
    private RingFreeOrder x() {
        return player.look(1);
    }

    private void same(String what, long got, long want) {
        Check.same(run + what, got, want);
    }

    private void give(String text) {
        player.give(text);
        m.buffer = text;
    }

    private int tasks() {
        return m.net.names.size();
    }

    private int anyTask() {
        return random.nextInt(tasks());
    }

    /** Begins with many tasks, so that groups and repairs are large from the start. */
    private void begin(int kind) {
        StringBuilder text = new StringBuilder();
        int count = kind == 1 ? 24 : 6 + random.nextInt(12);
        for (int t = 0; t < count; t++) {
            text.append(t == 0 ? "" : ";").append("task ").append(NAMES[t]).append(' ').append(1 + random.nextInt(9));
        }
        text.append(";mode ").append(random.nextInt(3));
        if (kind != 3) {
            text.append(";join 1");
        }
        give(text.toString());
        same("readText()", player.answer(x -> x.readText()), m.readText());
    }

    // ---- changes ----

    private void change() {
        int kind = random.nextInt(100);
        if (kind < 50) {
            arrowComes();
        } else if (kind < 62) {
            if (m.net.arrows.size() > 0) {
                int arrow = random.nextInt(m.net.arrows.size());
                same("cut(" + arrow + ")", player.answer(x -> x.cut(arrow)), m.cut(arrow));
            }
        } else if (kind < 68) {
            if (m.net.order.size() > 1) {
                int place = random.nextInt(m.net.order.size() - 1);
                same("swap(" + place + ")", player.answer(x -> x.swap(place)), m.swap(place));
            }
        } else if (kind < 72) {
            give(random.nextInt(5) == 0 ? junk() : NAMES[random.nextInt(NAMES.length)]);
            int hours = 1 + random.nextInt(9);
            same("make()", player.answer(x -> x.make(hours)), m.make(hours));
        } else if (kind < 76) {
            int task = anyTask();
            int hours = 1 + random.nextInt(9);
            m.remember();
            same("setHours()", player.answer(x -> x.setHours(task, hours)), m.net.hours.set(task, hours));
        } else if (kind < 82) {
            setNumber();
        } else if (kind < 84) {
            m.remember();
            same("refresh()", player.answer(x -> x.refresh()), Model.renew(m.net));
        } else if (kind < 91) {
            orders();
        } else if (kind < 92) {
            text();
        } else if (kind < 97) {
            same("undo()", player.answer(x -> x.undo()), m.undo());
        } else {
            saveOrRestore();
        }
    }

    private void arrowComes() {
        int a = anyTask();
        int b = anyTask();
        int reason = Model.refusal(m.net, a, b);
        Model.Outcome out = Model.outcome(m.net, a, b, m.net.mode);
        boolean told = reason == 0 || reason == 4;
        int[] due = {out.affected, out.behind, out.ahead, out.joined, out.looked, reason == 0 ? out.moved : 0};
        for (int k = 0; k < 6; k++) {
            same("trial(" + a + ", " + b + ", " + k + ")", x().trial(a, b, k), told ? due[k] : 0);
        }
        lookAtReasons(a, b, reason);
        same("add(" + a + ", " + b + ")", player.answer(x -> x.add(a, b)), m.add(a, b));
    }

    private void lookAtReasons(int a, int b, int reason) {
        List<Integer> way = Model.way(m.net, b, a);
        same("why 0", x().why(a, b, 0), reason);
        same("why 1", x().why(a, b, 1), reason == 4 ? 101 + way.get(1) : 0);
        same("why 2", x().why(a, b, 2), reason == 4 ? 201 + way.size() - 1 : 0);
        same("why 3", x().why(a, b, 3), 0);
        int best = -1;
        int least = Integer.MAX_VALUE;
        for (int mode = 0; mode < 3 && reason == 0; mode++) {
            int moved = Model.outcome(m.net, a, b, mode).moved;
            if (moved < least) {
                least = moved;
                best = mode;
            }
        }
        same("bestMode", x().bestMode(a, b), best);
    }

    private void setNumber() {
        m.remember();
        if (random.nextBoolean()) {
            int mode = random.nextInt(3);
            same("set(0)", player.answer(x -> x.set(0, mode)), m.net.mode);
            m.net.mode = mode;
        } else {
            int join = random.nextInt(4) == 0 ? 0 : 1;
            same("set(1)", player.answer(x -> x.set(1, join)), m.net.join);
            m.net.join = join;
        }
    }

    private void saveOrRestore() {
        if (random.nextBoolean()) {
            m.saved = m.net.copy();
            same("save()", player.answer(x -> x.save()), m.net.arrows.size());
        } else if (m.saved == null) {
            player.play(1, x -> Check.state(run + "restore()", () -> x.restore()));
        } else {
            m.net = m.saved.copy();
            m.past.clear();
            same("restore()", player.answer(x -> x.restore()), m.net.arrows.size());
        }
    }

    // ---- texts ----

    private String space() {
        return random.nextInt(6) == 0 ? " ".repeat(random.nextInt(3)) : "";
    }

    private String junk() {
        String[] some = {"", " ", ";", "1", "999", "0000", "abcdefg", "A", "\u00e9", "$", "task", "arrow", "zz ", "\u0000"};
        return some[random.nextInt(some.length)];
    }

    private String someName() {
        return NAMES[random.nextInt(random.nextInt(30) == 0 ? NAMES.length : Math.min(tasks() + 1, NAMES.length))];
    }

    private String knownName() {
        return random.nextInt(40) == 0 ? someName() : m.net.names.get(anyTask());
    }

    private String number(int least, int most) {
        int value = random.nextInt(60) == 0 ? most + 1 : least + random.nextInt(most - least + 1);
        return (random.nextInt(8) == 0 ? "0" : "") + value;
    }

    private String spoiled(String text) {
        if (text.isEmpty() || random.nextInt(3) != 0) {
            return text;
        }
        int at = random.nextInt(text.length());
        switch (random.nextInt(3)) {
            case 0: return text.substring(0, at);
            case 1: return text.substring(0, at) + text.substring(at + 1);
            default: return text.substring(0, at) + junk() + text.substring(at);
        }
    }

    private void orders() {
        StringBuilder text = new StringBuilder();
        int count = random.nextInt(10) == 0 ? 29 + random.nextInt(3) : random.nextInt(7);
        for (int k = 0; k < count; k++) {
            text.append(space()).append(order(count > 8)).append(space()).append(';').append(space());
        }
        give(spoiled(text.toString()));
        String given = m.buffer;
        int due = m.runOrders();
        if (due < 0) {
            player.play(1, x -> Check.argument(run + "runOrders() of " + given, () -> x.runOrders()));
        } else {
            same("runOrders() of " + given, player.answer(x -> x.runOrders()), due);
        }
    }

    private String order(boolean brief) {
        switch (brief ? 4 + random.nextInt(3) : random.nextInt(7)) {
            case 0: return "arrow " + knownName() + " " + space() + knownName();
            case 1: return "cut " + arrowNames();
            case 2: return "hours " + knownName() + space() + number(1, 9);
            case 3: return "swap" + space() + number(0, 22);
            case 4: return "mode " + number(0, 2);
            case 5: return "join" + number(0, 1);
            default: return "refresh";
        }
    }

    private String arrowNames() {
        if (m.net.arrows.isEmpty() || random.nextInt(4) == 0) {
            return knownName() + " " + knownName();
        }
        int[] arrow = m.net.arrows.get(random.nextInt(m.net.arrows.size()));
        return m.net.names.get(arrow[0]) + " " + m.net.names.get(arrow[1]);
    }

    private void text() {
        StringBuilder text = new StringBuilder();
        int count = 1 + random.nextInt(27);
        for (int t = 0; t < count; t++) {
            String name = random.nextInt(200) == 0 ? someName() : NAMES[t % NAMES.length];
            text.append(t == 0 ? "" : ";").append(space()).append("task ").append(name).append(space()).append(number(1, 9));
        }
        if (random.nextBoolean()) {
            text.append(";join ").append(number(0, 1));
        }
        int arrows = random.nextInt(30);
        for (int k = 0; k < arrows; k++) {
            text.append(space()).append(';').append("arrow ").append(NAMES[random.nextInt(Math.min(count, 24))]).append(' ')
                    .append(NAMES[random.nextInt(Math.min(count, 24))]);
            if (random.nextInt(20) == 0) {
                text.append(";mode ").append(number(0, 2));
            }
        }
        give(spoiled(text.length() > 890 ? text.substring(0, 890) : text.toString()));
        String given = m.buffer;
        int due = m.readText();
        if (due < 0) {
            player.play(1, x -> Check.argument(run + "readText() of " + given, () -> x.readText()));
        } else {
            same("readText() of " + given, player.answer(x -> x.readText()), due);
        }
        same("errorCode() of " + given, x().errorCode(), m.code);
        same("errorPosition() of " + given, x().errorPosition(), m.position);
    }

    // ---- looking ----

    private void lookBriefly() {
        same("errorCode()", x().errorCode(), m.code);
        same("errorPosition()", x().errorPosition(), m.position);
        same("changes", x().size(8), m.past.size());
        same("gap()", x().gap(), 0);
        for (int k = 0; k < 9; k++) {
            same("account(" + k + ")", x().account(k), m.net.accounts[k]);
        }
        same("mode", x().size(3), m.net.mode);
        same("join", x().size(4), m.net.join);
        String order = m.orderText();
        Check.same(run + "order", Check.order(player.look(reading(order))), order);
        int task = anyTask();
        String arrows = m.arrowsText(task);
        Check.same(run + "arrows", Check.arrows(player.look(reading(arrows)), task), arrows);
        lookAtSome(task, anyTask());
    }

    /** How many calls it takes to write an output text and to read it. */
    private static int reading(String text) {
        return 2 + text.length();
    }

    /** Looks between two changes at the same object: what one look leaves behind must not show in the next one. */
    private void lookAtSome(int from, int to) {
        Model.Net n = m.net;
        int longest = Model.longest(n);
        same("length()", x().length(), longest);
        lookAtGroup(random.nextInt(n.order.size()), longest);
        int place = random.nextInt(n.order.size());
        same("fresh(" + place + ")", x().fresh(place), Model.freshOf(n, n.order).get(place).first());
        List<Integer> way = Model.way(n, from, to);
        same("far", x().far(from, to), way.size() - 1);
        same("on", x().on(from, to, 1), way.size() > 1 ? way.get(1) : -1);
    }

    private void lookAll() {
        lookAtSizes();
        for (int t = 0; t < tasks(); t++) {
            lookAtTask(t);
        }
        for (int i = 0; i < m.net.arrows.size(); i++) {
            lookAtArrow(i);
        }
        lookAtGroups();
        lookAtFresh();
        lookAtCuts();
        double repairs = m.net.accounts[2];
        same("meanMoved()", Double.doubleToLongBits(x().meanMoved()),
                Double.doubleToLongBits(repairs == 0 ? 0.0 : m.net.accounts[5] / repairs));
    }

    private boolean inner(int[] arrow) {
        return Model.placeOf(m.net, arrow[0]) == Model.placeOf(m.net, arrow[1]);
    }

    private void lookAtSizes() {
        int largest = 0;
        int several = 0;
        for (TreeSet<Integer> group : m.net.order) {
            largest = Math.max(largest, group.size());
            several += group.size() > 1 ? 1 : 0;
        }
        int inner = 0;
        for (int[] arrow : m.net.arrows) {
            inner += inner(arrow) ? 1 : 0;
        }
        int arrows = m.net.arrows.size();
        int[] due = {tasks(), arrows, m.net.order.size(), m.net.mode, m.net.join, largest, inner, several};
        for (int k = 0; k < due.length; k++) {
            same("size(" + k + ")", x().size(k), due[k]);
        }
        same("innerShare()", Float.floatToIntBits(x().innerShare()),
                Float.floatToIntBits(arrows == 0 ? 0.0f : (float) inner / (float) arrows));
    }

    private void lookAtTask(int task) {
        Model.Net n = m.net;
        int place = Model.placeOf(n, task);
        int out = 0;
        int in = 0;
        int reached = 0;
        int reaching = 0;
        for (int t = 0; t < tasks(); t++) {
            out += Model.leads(n, task, t) ? 1 : 0;
            in += Model.leads(n, t, task) ? 1 : 0;
            List<Integer> way = Model.way(n, task, t);
            reached += t != task && !way.isEmpty() ? 1 : 0;
            reaching += t != task && Model.reaches(n, t, task) ? 1 : 0;
            same("reaches", x().reaches(task, t) ? 1 : 0, way.isEmpty() ? 0 : 1);
            same("far", x().far(task, t), way.size() - 1);
            same("arrowOf", x().arrowOf(task, t), Model.numberOf(n, task, t));
            for (int k = 0; k <= way.size(); k++) {
                same("on " + task + " " + t + " " + k, x().on(task, t, k), k < way.size() ? way.get(k) : -1);
            }
        }
        String name = n.names.get(task);
        int[] due = {n.hours.get(task), n.order.get(place).first(), place, out, in, reached, reaching, name.length()};
        for (int k = 0; k < due.length; k++) {
            same("task(" + task + ", " + k + ")", x().task(task, k), due[k]);
        }
        for (int k = 0; k < 7; k++) {
            same("letter", x().letter(task, k), k < name.length() ? name.charAt(k) : -1);
        }
        int least = place;
        while (least > 0 && !Model.groupLeads(n, n.order.get(least - 1), n.order.get(place))) {
            least--;
        }
        int most = place;
        while (most < n.order.size() - 1 && !Model.groupLeads(n, n.order.get(place), n.order.get(most + 1))) {
            most++;
        }
        same("leastPlace", x().leastPlace(task), least);
        same("mostPlace", x().mostPlace(task), most);
    }

    private void lookAtArrow(int arrow) {
        int[] ends = m.net.arrows.get(arrow);
        int[] due = {ends[0], ends[1], inner(ends) ? 1 : 0, Model.placeOf(m.net, ends[1]) - Model.placeOf(m.net, ends[0])};
        for (int k = 0; k < due.length; k++) {
            same("arrow(" + arrow + ", " + k + ")", x().arrow(arrow, k), due[k]);
        }
    }

    private void lookAtGroups() {
        int longest = Model.longest(m.net);
        int tight = 0;
        for (int p = 0; p < m.net.order.size(); p++) {
            tight |= Model.through(m.net, p) == longest ? 1 << m.net.order.get(p).first() : 0;
            lookAtGroup(p, longest);
        }
        same("length()", x().length(), longest);
        same("tight()", x().tight(), tight);
    }

    private void lookAtGroup(int place, int longest) {
        Model.Net n = m.net;
        TreeSet<Integer> group = n.order.get(place);
        int inner = 0;
        int set = 0;
        for (int[] arrow : n.arrows) {
            inner += group.contains(arrow[0]) && group.contains(arrow[1]) ? 1 : 0;
        }
        for (int task : group) {
            set |= 1 << task;
        }
        int[] due = {group.first(), group.size(), Model.hoursOf(n, place), inner, set,
            Model.most(n, place, false, false, Model.unknown()), Model.most(n, place, true, false, Model.unknown()),
            longest - Model.through(n, place)};
        for (int k = 0; k < due.length; k++) {
            same("group(" + place + ", " + k + ")", x().group(place, k), due[k]);
        }
    }

    private void lookAtFresh() {
        List<TreeSet<Integer>> fresh = Model.freshOf(m.net, m.net.order);
        int turned = 0;
        for (int p = 0; p < fresh.size(); p++) {
            same("fresh(" + p + ")", x().fresh(p), fresh.get(p).first());
            for (int q = 0; q < p; q++) {
                turned += m.net.order.indexOf(fresh.get(q)) > m.net.order.indexOf(fresh.get(p)) ? 1 : 0;
            }
        }
        same("turned()", x().turned(), turned);
    }

    private void lookAtCuts() {
        int weakest = -1;
        int most = 1;
        int needless = 0;
        for (int i = 0; i < m.net.arrows.size(); i++) {
            Model.Net copy = m.net.copy();
            int[] ends = copy.arrows.get(i);
            int parts = Model.cutOff(copy, i);
            if (parts > most) {
                most = parts;
                weakest = i;
            }
            needless += Model.reaches(copy, ends[0], ends[1]) ? 1 : 0;
        }
        same("weakest()", x().weakest(), weakest);
        same("needless()", x().needless(), needless);
    }
}
