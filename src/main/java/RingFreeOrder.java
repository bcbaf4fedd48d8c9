import java.util.Arrays;

/**
 * An order of tasks that is repaired in place as arrows come between them.
 * Sets of tasks and sets of places are ints: bit k stands for number k.
 */
public final class RingFreeOrder {
    public static final int NONE = -1;

    private static final int MAX_TASKS = 24;
    private static final int MAX_ARROWS = 60;
    private static final int MAX_INPUT = 900;
    private static final int MAX_OUTPUT = 256;
    private static final int MAX_ORDERS = 30;
    private static final int MAX_PAST = 8;
    private static final int MAX_LETTERS = 6;
    private static final int MAX_DIGITS = 3;
    private static final int MAX_HOURS = 9;
    private static final int MAX_MODE = 2;
    private static final int MAX_JOIN = 1;
    private static final int MAX_SWAP = MAX_TASKS - 2;
    private static final int APPENDED = 20;

    private static final int SAME = 1;
    private static final int KNOWN = 2;
    private static final int FULL = 3;
    private static final int RING = 4;
    private static final int LEADS = 5;
    private static final int NO_ROOM = 6;
    private static final int NAME_TAKEN = 7;
    private static final int NO_NAME = 8;

    private static final int BAD_TOKEN = 1;
    private static final int BAD_RANGE = 2;
    private static final int BAD_SENSE = 3;
    private static final int TOO_MANY = 4;

    private static final int CAME = 0;
    private static final int CUT_OFF = 1;
    private static final int REPAIRS = 2;
    private static final int AFFECTED = 3;
    private static final int LOOKED = 4;
    private static final int MOVED = 5;
    private static final int JOINED = 6;
    private static final int PARTED = 7;
    private static final int SWAPS = 8;
    private static final int ACCOUNTS = 9;

    private final Net now = new Net();
    private final Net draft = new Net();
    private final Net kept = new Net();
    private boolean isKept = false;
    private final Net[] past = new Net[MAX_PAST];
    private int pastCount = 0;
    private final Reader reader = new Reader();
    private final Output output = new Output();
    private final Description description = new Description();
    private final Orders orders = new Orders();
    private final Repair repair = new Repair();
    private final Sorter sorter = new Sorter();
    private final Chains chains = new Chains();
    private final Ways ways = new Ways();

    public RingFreeOrder() {
        for (int k = 0; k < MAX_PAST; k++) {
            past[k] = new Net();
        }
        now.addTask('a', 1);
    }

    public int append(int a, int b, int c, int d, int e) throws IllegalStateException {
        if (reader.size > MAX_INPUT - APPENDED) {
            throw new IllegalStateException("the input buffer would exceed 900 bytes");
        }
        reader.putNumber(a);
        reader.putNumber(b);
        reader.putNumber(c);
        reader.putNumber(d);
        reader.putNumber(e);
        return reader.size;
    }

    public int truncate(int length) throws IllegalArgumentException {
        if (length < 0 || length > reader.size) {
            throw new IllegalArgumentException("no such length");
        }
        reader.size = length;
        return length;
    }

    public int readText() throws IllegalArgumentException {
        boolean good = description.readAll(reader, draft, repair);
        reader.size = 0;
        if (!good) {
            throw new IllegalArgumentException("the description has an error");
        }
        now.copyFrom(draft);
        pastCount = 0;
        return now.tasks;
    }

    public int runOrders() throws IllegalArgumentException {
        boolean good = orders.readAll(reader, now);
        reader.size = 0;
        if (!good) {
            throw new IllegalArgumentException("the orders have an error");
        }
        remember();
        return orders.runAll(now, repair, sorter);
    }

    public int errorCode() {
        return reader.code;
    }

    public int errorPosition() {
        return reader.position;
    }

    public int size(int what) throws IllegalArgumentException {
        switch (what) {
            case 0: return now.tasks;
            case 1: return now.arrows;
            case 2: return now.groups;
            case 3: return now.mode;
            case 4: return now.join;
            case 5: return now.largestGroup();
            case 6: return now.innerArrows();
            case 7: return now.trueGroups();
            case 8: return pastCount;
            default: throw new IllegalArgumentException("no such number");
        }
    }

    public int task(int task, int what) throws IndexOutOfBoundsException, IllegalArgumentException {
        checkTask(task);
        switch (what) {
            case 0: return now.hours[task];
            case 1: return headOf(now.members[now.place[task]]);
            case 2: return now.place[task];
            case 3: return Integer.bitCount(now.next[task]);
            case 4: return now.arrowsTo(task);
            case 5: return Integer.bitCount(now.reach[task]) - 1;
            case 6: return Integer.bitCount(now.reachedBy(task)) - 1;
            case 7: return lettersOf(now.name[task]);
            default: throw new IllegalArgumentException("no such number of a task");
        }
    }

    public int letter(int task, int index) throws IndexOutOfBoundsException {
        checkTask(task);
        int letter = letterOf(now.name[task], index);
        return letter == 0 ? NONE : letter;
    }

    public int group(int place, int what) throws IndexOutOfBoundsException, IllegalArgumentException {
        checkPlace(place, now.groups);
        if (what < 0 || what > 7) {
            throw new IllegalArgumentException("no such number of a group");
        }
        int members = now.members[place];
        switch (what) {
            case 0: return headOf(members);
            case 1: return Integer.bitCount(members);
            case 3: return now.innerArrowsAt(place);
            case 4: return members;
            default: break;
        }
        chains.measure(now);
        switch (what) {
            case 2: return chains.hours[place];
            case 5: return chains.level[place];
            case 6: return chains.begin[place];
            default: return chains.slackAt(place);
        }
    }

    public int arrow(int arrow, int what) throws IndexOutOfBoundsException, IllegalArgumentException {
        checkArrow(arrow);
        switch (what) {
            case 0: return now.from[arrow];
            case 1: return now.to[arrow];
            case 2: return now.isInner(arrow) ? 1 : 0;
            case 3: return now.place[now.to[arrow]] - now.place[now.from[arrow]];
            default: throw new IllegalArgumentException("no such number of an arrow");
        }
    }

    public int arrowOf(int from, int to) throws IndexOutOfBoundsException {
        checkTask(from);
        checkTask(to);
        return now.numberOf(from, to);
    }

    public boolean reaches(int from, int to) throws IndexOutOfBoundsException {
        checkTask(from);
        checkTask(to);
        return has(now.reach[from], to);
    }

    public int far(int from, int to) throws IndexOutOfBoundsException {
        checkTask(from);
        checkTask(to);
        ways.measure(now, to);
        return ways.left[from];
    }

    public int on(int from, int to, int index) throws IndexOutOfBoundsException {
        checkTask(from);
        checkTask(to);
        ways.measure(now, to);
        if (index < 0 || index > ways.left[from]) {
            return NONE;
        }
        int task = from;
        for (int k = 0; k < index && task != NONE; k++) {
            task = ways.stepFrom(now, task);
        }
        return task;
    }

    public int trial(int from, int to, int what) throws IndexOutOfBoundsException, IllegalArgumentException {
        checkTask(from);
        checkTask(to);
        if (what < 0 || what > 5) {
            throw new IllegalArgumentException("no such number of a trial");
        }
        int reason = now.refusal(from, to);
        if (reason != 0 && reason != RING) {
            return 0;
        }
        repair.survey(now, from, to);
        switch (what) {
            case 0: return repair.affected();
            case 1: return Integer.bitCount(repair.behind);
            case 2: return Integer.bitCount(repair.ahead);
            case 3: return Integer.bitCount(repair.behind & repair.ahead);
            case 4: return repair.looked;
            default: return reason == RING ? 0 : repair.arrange(now, now.mode);
        }
    }

    public int why(int from, int to, int depth) throws IndexOutOfBoundsException, IllegalArgumentException {
        checkTask(from);
        checkTask(to);
        if (depth < 0) {
            throw new IllegalArgumentException("the depth is negative");
        }
        int reason = now.refusal(from, to);
        if (depth == 0) {
            return reason;
        }
        if (reason != RING || depth > 2) {
            return 0;
        }
        ways.measure(now, from);
        return depth == 1 ? 101 + ways.stepFrom(now, to) : 201 + ways.left[to];
    }

    public int bestMode(int from, int to) throws IndexOutOfBoundsException {
        checkTask(from);
        checkTask(to);
        if (now.refusal(from, to) != 0) {
            return NONE;
        }
        repair.survey(now, from, to);
        int best = 0;
        int least = repair.arrange(now, 0);
        for (int mode = 1; mode <= MAX_MODE; mode++) {
            int moved = repair.arrange(now, mode);
            if (moved < least) {
                best = mode;
                least = moved;
            }
        }
        return best;
    }

    public int leastPlace(int task) throws IndexOutOfBoundsException {
        checkTask(task);
        int own = now.place[task];
        int least = 0;
        for (int i = 0; i < now.arrows; i++) {
            if (now.place[now.to[i]] == own && !now.isInner(i)) {
                least = Math.max(least, now.place[now.from[i]] + 1);
            }
        }
        return least;
    }

    public int mostPlace(int task) throws IndexOutOfBoundsException {
        checkTask(task);
        int own = now.place[task];
        int most = now.groups - 1;
        for (int i = 0; i < now.arrows; i++) {
            if (now.place[now.from[i]] == own && !now.isInner(i)) {
                most = Math.min(most, now.place[now.to[i]] - 1);
            }
        }
        return most;
    }

    public int fresh(int place) throws IndexOutOfBoundsException {
        checkPlace(place, now.groups);
        sorter.sortAll(now);
        return headOf(sorter.row.groups[place]);
    }

    public int turned() {
        sorter.sortAll(now);
        return sorter.turnedPairs(now);
    }

    public int length() {
        chains.measure(now);
        return chains.longest;
    }

    public int tight() {
        chains.measure(now);
        int heads = 0;
        for (int p = 0; p < now.groups; p++) {
            if (chains.slackAt(p) == 0) {
                heads |= 1 << headOf(now.members[p]);
            }
        }
        return heads;
    }

    public int gap() {
        return now.wrongArrows() + now.wrongPairs();
    }

    public int weakest() {
        int best = NONE;
        int most = 1;
        for (int i = 0; i < now.arrows; i++) {
            if (now.isInner(i) && !now.isNeedless(i)) {
                int parts = sorter.partsWithout(now, i);
                if (parts > most) {
                    best = i;
                    most = parts;
                }
            }
        }
        return best;
    }

    public int needless() {
        int count = 0;
        for (int i = 0; i < now.arrows; i++) {
            if (now.isNeedless(i)) {
                count++;
            }
        }
        return count;
    }

    public long account(int what) throws IllegalArgumentException {
        if (what < 0 || what >= ACCOUNTS) {
            throw new IllegalArgumentException("no such account");
        }
        return now.accounts[what];
    }

    public float innerShare() {
        return now.arrows == 0 ? 0.0f : (float) now.innerArrows() / (float) now.arrows;
    }

    public double meanMoved() {
        long repairs = now.accounts[REPAIRS];
        return repairs == 0 ? 0.0 : (double) now.accounts[MOVED] / (double) repairs;
    }

    public int make(int hours) throws IllegalArgumentException {
        checkHours(hours);
        long name = reader.wholeName();
        if (name == 0) {
            return -NO_NAME;
        }
        if (now.tasks >= MAX_TASKS) {
            return -NO_ROOM;
        }
        if (now.taskNamed(name) != NONE) {
            return -NAME_TAKEN;
        }
        remember();
        reader.size = 0;
        now.addTask(name, hours);
        return now.tasks - 1;
    }

    public int add(int from, int to) throws IndexOutOfBoundsException {
        checkTask(from);
        checkTask(to);
        int reason = now.refusal(from, to);
        if (reason != 0) {
            return -reason;
        }
        remember();
        return repair.bring(now, from, to);
    }

    public int cut(int arrow) throws IndexOutOfBoundsException {
        checkArrow(arrow);
        remember();
        return sorter.cutOff(now, arrow);
    }

    public int swap(int place) throws IndexOutOfBoundsException {
        checkPlace(place, now.groups - 1);
        if (now.leadsOn(place)) {
            return -LEADS;
        }
        remember();
        now.swapAt(place);
        return headOf(now.members[place]);
    }

    public int setHours(int task, int hours) throws IndexOutOfBoundsException, IllegalArgumentException {
        checkTask(task);
        checkHours(hours);
        remember();
        int before = now.hours[task];
        now.hours[task] = hours;
        return before;
    }

    public int set(int what, int value) throws IllegalArgumentException {
        if (what < 0 || what > 1 || value < 0 || value > (what == 0 ? MAX_MODE : MAX_JOIN)) {
            throw new IllegalArgumentException("no such number or value");
        }
        remember();
        int before;
        if (what == 0) {
            before = now.mode;
            now.mode = value;
        } else {
            before = now.join;
            now.join = value;
        }
        return before;
    }

    public int refresh() {
        remember();
        return sorter.renew(now);
    }

    public int writeOrder() {
        output.size = 0;
        for (int p = 0; p < now.groups; p++) {
            if (p > 0) {
                output.put(' ');
            }
            output.putGroup(now, now.members[p]);
        }
        return output.size;
    }

    public int writeArrows(int task) throws IndexOutOfBoundsException {
        checkTask(task);
        output.size = 0;
        for (int i = 0; i < now.arrows; i++) {
            if (now.from[i] == task) {
                if (output.size > 0) {
                    output.put(' ');
                }
                output.put(now.isInner(i) ? '=' : '>');
                output.putName(now.name[now.to[i]]);
            }
        }
        return output.size;
    }

    public int outputByte(int index) {
        return index < 0 || index >= output.size ? NONE : output.text[index];
    }

    public int undo() {
        if (pastCount == 0) {
            return NONE;
        }
        pastCount--;
        now.copyFrom(past[pastCount]);
        return pastCount;
    }

    public int save() {
        kept.copyFrom(now);
        isKept = true;
        return now.arrows;
    }

    public int restore() throws IllegalStateException {
        if (!isKept) {
            throw new IllegalStateException("nothing was saved");
        }
        now.copyFrom(kept);
        pastCount = 0;
        return now.arrows;
    }

    private void checkTask(int task) {
        if (task < 0 || task >= now.tasks) {
            throw new IndexOutOfBoundsException("no such task");
        }
    }

    private void checkArrow(int arrow) {
        if (arrow < 0 || arrow >= now.arrows) {
            throw new IndexOutOfBoundsException("no such arrow");
        }
    }

    private static void checkPlace(int place, int places) {
        if (place < 0 || place >= places) {
            throw new IndexOutOfBoundsException("no such place");
        }
    }

    private static void checkHours(int hours) {
        if (hours < 1 || hours > MAX_HOURS) {
            throw new IllegalArgumentException("hours are out of range");
        }
    }

    /** Keeps the state ahead of a change; the oldest one of eight makes room for it. */
    private void remember() {
        if (pastCount == MAX_PAST) {
            Net oldest = past[0];
            for (int k = 1; k < MAX_PAST; k++) {
                past[k - 1] = past[k];
            }
            past[MAX_PAST - 1] = oldest;
            pastCount--;
        }
        past[pastCount].copyFrom(now);
        pastCount++;
    }

    private static boolean has(int set, int number) {
        return (set >> number & 1) == 1;
    }

    private static int headOf(int tasks) {
        return Integer.numberOfTrailingZeros(tasks);
    }

    /** A NAME is a long with its first letter in the lowest byte; 0 where there is no letter. */
    private static int letterOf(long name, int index) {
        return index < 0 || index >= MAX_LETTERS ? 0 : (int) (name >> 8 * index) & 255;
    }

    private static int lettersOf(long name) {
        int count = 0;
        for (int k = 0; k < MAX_LETTERS; k++) {
            if (letterOf(name, k) != 0) {
                count++;
            }
        }
        return count;
    }

    /** All that changes take back and save() saves: tasks, arrows, groups in their order, accounts. */
    private static final class Net {
        final long[] name = new long[MAX_TASKS];
        final int[] hours = new int[MAX_TASKS];
        final int[] from = new int[MAX_ARROWS];
        final int[] to = new int[MAX_ARROWS];
        /** Of each task the tasks to which its arrows lead. */
        final int[] next = new int[MAX_TASKS];
        /** Of each task the tasks that it reaches, itself among them. */
        final int[] reach = new int[MAX_TASKS];
        /** Of each place the tasks of the group that stands there. */
        final int[] members = new int[MAX_TASKS];
        final int[] place = new int[MAX_TASKS];
        final long[] accounts = new long[ACCOUNTS];
        int tasks = 0;
        int arrows = 0;
        int groups = 0;
        int mode = 0;
        int join = 0;

        void clear() {
            tasks = 0;
            arrows = 0;
            groups = 0;
            mode = 0;
            join = 0;
            clearAccounts();
        }

        void clearAccounts() {
            Arrays.fill(accounts, 0L);
        }

        void copyFrom(Net other) {
            System.arraycopy(other.name, 0, name, 0, MAX_TASKS);
            System.arraycopy(other.hours, 0, hours, 0, MAX_TASKS);
            System.arraycopy(other.from, 0, from, 0, MAX_ARROWS);
            System.arraycopy(other.to, 0, to, 0, MAX_ARROWS);
            System.arraycopy(other.next, 0, next, 0, MAX_TASKS);
            System.arraycopy(other.reach, 0, reach, 0, MAX_TASKS);
            System.arraycopy(other.members, 0, members, 0, MAX_TASKS);
            System.arraycopy(other.place, 0, place, 0, MAX_TASKS);
            System.arraycopy(other.accounts, 0, accounts, 0, ACCOUNTS);
            tasks = other.tasks;
            arrows = other.arrows;
            groups = other.groups;
            mode = other.mode;
            join = other.join;
        }

        void addTask(long newName, int newHours) {
            if (tasks >= MAX_TASKS || groups >= MAX_TASKS) {
                return;
            }
            name[tasks] = newName;
            hours[tasks] = newHours;
            next[tasks] = 0;
            reach[tasks] = 1 << tasks;
            place[tasks] = groups;
            members[groups] = 1 << tasks;
            tasks++;
            groups++;
        }

        int taskNamed(long wanted) {
            for (int t = 0; t < tasks; t++) {
                if (name[t] == wanted) {
                    return t;
                }
            }
            return NONE;
        }

        int numberOf(int first, int second) {
            for (int i = 0; i < arrows; i++) {
                if (from[i] == first && to[i] == second) {
                    return i;
                }
            }
            return NONE;
        }

        boolean isInner(int arrow) {
            return place[from[arrow]] == place[to[arrow]];
        }

        /** The reason for which an arrow would be refused, 0 if it would not. */
        int refusal(int first, int second) {
            if (first == second) {
                return SAME;
            }
            if (has(next[first], second)) {
                return KNOWN;
            }
            if (arrows >= MAX_ARROWS) {
                return FULL;
            }
            boolean ring = place[first] != place[second] && has(reach[second], first);
            return ring && join == 0 ? RING : 0;
        }

        void putArrow(int first, int second) {
            if (arrows >= MAX_ARROWS) {
                return;
            }
            from[arrows] = first;
            to[arrows] = second;
            arrows++;
            next[first] |= 1 << second;
            for (int t = 0; t < tasks; t++) {
                if (has(reach[t], first)) {
                    reach[t] |= reach[second];
                }
            }
        }

        void dropArrow(int arrow) {
            next[from[arrow]] &= ~(1 << to[arrow]);
            for (int i = arrow + 1; i < arrows; i++) {
                from[i - 1] = from[i];
                to[i - 1] = to[i];
            }
            arrows--;
            closeWithout(NONE, reach);
        }

        /** Writes to a row what each task reaches if one arrow (or NONE) were missing. */
        void closeWithout(int arrow, int[] row) {
            for (int t = 0; t < tasks; t++) {
                row[t] = next[t] | 1 << t;
            }
            if (arrow != NONE) {
                row[from[arrow]] &= ~(1 << to[arrow]);
            }
            for (int middle = 0; middle < tasks; middle++) {
                int gained = row[middle];
                for (int t = 0; t < tasks; t++) {
                    if (has(row[t], middle)) {
                        row[t] |= gained;
                    }
                }
            }
        }

        /** Whether another way than the arrow itself leads from its one end to the other. */
        boolean isNeedless(int arrow) {
            int start = from[arrow];
            int end = to[arrow];
            int seen = 1 << start;
            int edge = next[start] & ~(1 << end);
            for (int k = 0; k < tasks && edge != 0 && !has(seen, end); k++) {
                seen |= edge;
                int found = 0;
                for (int t = 0; t < tasks; t++) {
                    if (has(edge, t)) {
                        found |= next[t];
                    }
                }
                edge = found & ~seen;
            }
            return has(seen, end);
        }

        int reachedBy(int task) {
            int set = 0;
            for (int t = 0; t < tasks; t++) {
                if (has(reach[t], task)) {
                    set |= 1 << t;
                }
            }
            return set;
        }

        int arrowsTo(int task) {
            int count = 0;
            for (int t = 0; t < tasks; t++) {
                if (has(next[t], task)) {
                    count++;
                }
            }
            return count;
        }

        int innerArrows() {
            int count = 0;
            for (int i = 0; i < arrows; i++) {
                if (isInner(i)) {
                    count++;
                }
            }
            return count;
        }

        int innerArrowsAt(int where) {
            int count = 0;
            for (int i = 0; i < arrows; i++) {
                if (isInner(i) && place[from[i]] == where) {
                    count++;
                }
            }
            return count;
        }

        int largestGroup() {
            int most = 0;
            for (int p = 0; p < groups; p++) {
                most = Math.max(most, Integer.bitCount(members[p]));
            }
            return most;
        }

        int trueGroups() {
            int count = 0;
            for (int p = 0; p < groups; p++) {
                if (Integer.bitCount(members[p]) > 1) {
                    count++;
                }
            }
            return count;
        }

        /** Whether an arrow leads from the group at a place to the one behind it. */
        boolean leadsOn(int where) {
            for (int i = 0; i < arrows; i++) {
                if (place[from[i]] == where && place[to[i]] == where + 1) {
                    return true;
                }
            }
            return false;
        }

        void swapAt(int where) {
            int moved = members[where];
            members[where] = members[where + 1];
            members[where + 1] = moved;
            setPlaces();
            accounts[SWAPS]++;
        }

        void takeOrder(Row row) {
            groups = row.count;
            for (int p = 0; p < groups; p++) {
                members[p] = row.groups[p];
            }
            setPlaces();
        }

        private void setPlaces() {
            for (int p = 0; p < groups; p++) {
                for (int t = 0; t < tasks; t++) {
                    if (has(members[p], t)) {
                        place[t] = p;
                    }
                }
            }
        }

        int wrongArrows() {
            int count = 0;
            for (int i = 0; i < arrows; i++) {
                if (place[from[i]] > place[to[i]]) {
                    count++;
                }
            }
            return count;
        }

        int wrongPairs() {
            int count = 0;
            for (int t = 0; t < tasks; t++) {
                for (int u = 0; u < t; u++) {
                    boolean mutual = has(reach[t], u) && has(reach[u], t);
                    if (mutual != (place[t] == place[u])) {
                        count++;
                    }
                }
            }
            return count;
        }
    }

    /** A row of groups, each as the set of its tasks. */
    private static final class Row {
        final int[] groups = new int[MAX_TASKS];
        int count = 0;

        void put(int group) {
            if (count < MAX_TASKS) {
                groups[count] = group;
                count++;
            }
        }

        void putSome(int group) {
            if (group != 0) {
                put(group);
            }
        }

        /** Puts the groups that a net has from a place on, up to another one (which is left out). */
        void putPlaces(Net net, int first, int end) {
            for (int p = first; p < end; p++) {
                put(net.members[p]);
            }
        }
    }

    /** What an arrow would do to the order (section 3), and the doing of it. */
    private static final class Repair {
        final Row row = new Row();
        private int low = 0;
        private int high = NONE;
        /** Places of the affected part whose groups are BEHIND, and AHEAD. */
        int behind = 0;
        int ahead = 0;
        /** The tasks of all groups that are both; none without a ring. */
        private int joined = 0;
        int looked = 0;

        /** Looks at the net as it is without the arrow. */
        void survey(Net net, int from, int to) {
            low = net.place[to];
            high = net.place[from];
            behind = 0;
            ahead = 0;
            joined = 0;
            looked = 0;
            if (low >= high) {
                high = low - 1;
                return;
            }
            int reached = net.reach[to];
            int reaching = net.reachedBy(from);
            for (int p = low; p <= high; p++) {
                if ((reached & net.members[p]) != 0) {
                    behind |= 1 << p;
                }
                if ((reaching & net.members[p]) != 0) {
                    ahead |= 1 << p;
                }
                if (has(behind & ahead, p)) {
                    joined |= net.members[p];
                }
            }
            countLooked(net);
        }

        private void countLooked(Net net) {
            for (int i = 0; i < net.arrows; i++) {
                if (!net.isInner(i)) {
                    if (has(behind, net.place[net.from[i]])) {
                        looked++;
                    }
                    if (has(ahead, net.place[net.to[i]])) {
                        looked++;
                    }
                }
            }
        }

        int affected() {
            return high - low + 1;
        }

        /** Puts the repaired order into the row, by a MODE; returns MOVED. */
        int arrange(Net net, int mode) {
            row.count = 0;
            row.putPlaces(net, 0, low);
            if (mode == 0) {
                dealOut(net);
            } else if (mode == 1) {
                putThose(net, ~behind);
                row.putSome(joined);
                putThose(net, behind & ~ahead);
            } else {
                putThose(net, ahead & ~behind);
                row.putSome(joined);
                putThose(net, ~ahead);
            }
            int end = row.count;
            row.putPlaces(net, high + 1, net.groups);
            return countMoved(net, end);
        }

        private void dealOut(Net net) {
            int aheadLeft = ahead & ~behind;
            int behindLeft = behind & ~ahead;
            int placesLeft = Integer.bitCount(ahead | behind);
            int joinedLeft = joined;
            for (int p = low; p <= high; p++) {
                if (!has(ahead | behind, p)) {
                    row.put(net.members[p]);
                    continue;
                }
                if (aheadLeft != 0) {
                    row.put(net.members[Integer.numberOfTrailingZeros(aheadLeft)]);
                    aheadLeft &= aheadLeft - 1;
                } else if (joinedLeft != 0) {
                    row.put(joinedLeft);
                    joinedLeft = 0;
                } else if (behindLeft != 0 && placesLeft == Integer.bitCount(behindLeft)) {
                    row.put(net.members[Integer.numberOfTrailingZeros(behindLeft)]);
                    behindLeft &= behindLeft - 1;
                }
                placesLeft--;
            }
        }

        private void putThose(Net net, int places) {
            for (int p = low; p <= high; p++) {
                if (has(places, p)) {
                    row.put(net.members[p]);
                }
            }
        }

        /** A group stays only if it has the place that each of its tasks had. */
        private int countMoved(Net net, int end) {
            int moved = 0;
            for (int p = low; p < end; p++) {
                if (row.groups[p] != net.members[p]) {
                    moved++;
                }
            }
            return moved;
        }

        /** Repairs the order for an arrow that is not refused, and adds it; returns MOVED. */
        int bring(Net net, int from, int to) {
            int moved = 0;
            survey(net, from, to);
            if (affected() > 0) {
                moved = arrange(net, net.mode);
                net.takeOrder(row);
                net.accounts[REPAIRS]++;
                net.accounts[AFFECTED] += affected();
                net.accounts[LOOKED] += looked;
                net.accounts[MOVED] += moved;
                net.accounts[JOINED] += Integer.bitCount(behind & ahead);
            }
            net.accounts[CAME]++;
            net.putArrow(from, to);
            return moved;
        }
    }

    /** Orders groups anew by least HEAD (sections 4 and fresh()), and parts groups. */
    private static final class Sorter {
        final Row row = new Row();
        /** The place from which each group that was sorted came. */
        private final int[] cameFrom = new int[MAX_TASKS];
        /** Of each place those places whose groups must be placed ahead of its group. */
        private final int[] before = new int[MAX_TASKS];
        private final int[] reach = new int[MAX_TASKS];

        /** Puts the whole order of fresh() into the row. */
        void sortAll(Net net) {
            sortPart(net, 0, net.groups);
        }

        /** Puts all groups into the row, those from a place on up to another one in fresh order. */
        private void sortPart(Net net, int first, int end) {
            row.count = 0;
            row.putPlaces(net, 0, first);
            lookBefore(net, first, end);
            int rest = 0;
            for (int p = first; p < end; p++) {
                rest |= 1 << p;
            }
            for (int k = first; k < end; k++) {
                int p = freePlace(net, rest);
                if (p != NONE) {
                    row.put(net.members[p]);
                    cameFrom[k] = p;
                    rest &= ~(1 << p);
                }
            }
            row.putPlaces(net, end, net.groups);
        }

        private void lookBefore(Net net, int first, int end) {
            Arrays.fill(before, 0);
            for (int i = 0; i < net.arrows; i++) {
                int a = net.place[net.from[i]];
                int b = net.place[net.to[i]];
                if (a != b && a >= first && a < end && b >= first && b < end) {
                    before[b] |= 1 << a;
                }
            }
        }

        /** Of the places that are left and wait for no other one that of the least HEAD. */
        private int freePlace(Net net, int rest) {
            for (int t = 0; t < net.tasks; t++) {
                int p = net.place[t];
                if (has(rest, p) && (before[p] & rest) == 0) {
                    return p;
                }
            }
            return NONE;
        }

        /** The pairs of groups that stand the other way round behind sortAll(). */
        int turnedPairs(Net net) {
            int count = 0;
            for (int k = 0; k < net.groups; k++) {
                for (int j = 0; j < k; j++) {
                    if (cameFrom[j] > cameFrom[k]) {
                        count++;
                    }
                }
            }
            return count;
        }

        /** Puts the net in fresh order; returns how many groups have another place then. */
        int renew(Net net) {
            sortAll(net);
            int moved = 0;
            for (int p = 0; p < net.groups; p++) {
                if (row.groups[p] != net.members[p]) {
                    moved++;
                }
            }
            net.takeOrder(row);
            return moved;
        }

        /** Cuts an arrow; returns into how many groups its group fell apart, 0 if it was not inner. */
        int cutOff(Net net, int arrow) {
            int where = net.place[net.from[arrow]];
            boolean inner = net.isInner(arrow);
            net.dropArrow(arrow);
            net.accounts[CUT_OFF]++;
            if (!inner) {
                return 0;
            }
            row.count = 0;
            row.putPlaces(net, 0, where);
            int parts = putParts(net, net.members[where], net.reach);
            if (parts > 1) {
                row.putPlaces(net, where + 1, net.groups);
                net.takeOrder(row);
                sortPart(net, where, where + parts);
                net.takeOrder(row);
                net.accounts[PARTED] += parts;
            }
            return parts;
        }

        /** How many groups would come of an inner arrow's group if it were cut. */
        int partsWithout(Net net, int arrow) {
            net.closeWithout(arrow, reach);
            row.count = 0;
            return putParts(net, net.members[net.place[net.from[arrow]]], reach);
        }

        /** Puts the sets of tasks of a group that reach one another by a row into this row. */
        private int putParts(Net net, int group, int[] reached) {
            int rest = group;
            int parts = 0;
            for (int t = 0; t < net.tasks; t++) {
                if (has(rest, t)) {
                    int part = 0;
                    for (int u = t; u < net.tasks; u++) {
                        if (has(rest, u) && has(reached[t], u) && has(reached[u], t)) {
                            part |= 1 << u;
                        }
                    }
                    row.put(part);
                    rest &= ~part;
                    parts++;
                }
            }
            return parts;
        }
    }

    /** HOURS, LEVEL, BEGIN and SLACK of the group at each place (section 2). */
    private static final class Chains {
        final int[] hours = new int[MAX_TASKS];
        final int[] level = new int[MAX_TASKS];
        final int[] begin = new int[MAX_TASKS];
        /** HOURS of the longest chain behind the group, without its own. */
        private final int[] tail = new int[MAX_TASKS];
        int longest = 0;

        void measure(Net net) {
            Arrays.fill(hours, 0);
            Arrays.fill(level, 0);
            Arrays.fill(begin, 0);
            Arrays.fill(tail, 0);
            for (int t = 0; t < net.tasks; t++) {
                hours[net.place[t]] += net.hours[t];
            }
            longest = 0;
            for (int p = 0; p < net.groups; p++) {
                goOn(net, p);
                longest = Math.max(longest, begin[p] + hours[p]);
            }
            for (int p = net.groups - 1; p >= 0; p--) {
                goBack(net, p);
            }
        }

        /** All arrows lead to higher places, so the group's own numbers stand when it is its turn. */
        private void goOn(Net net, int where) {
            for (int i = 0; i < net.arrows; i++) {
                int other = net.place[net.to[i]];
                if (net.place[net.from[i]] == where && other != where) {
                    level[other] = Math.max(level[other], level[where] + 1);
                    begin[other] = Math.max(begin[other], begin[where] + hours[where]);
                }
            }
        }

        private void goBack(Net net, int where) {
            for (int i = 0; i < net.arrows; i++) {
                int other = net.place[net.from[i]];
                if (net.place[net.to[i]] == where && other != where) {
                    tail[other] = Math.max(tail[other], tail[where] + hours[where]);
                }
            }
        }

        int slackAt(int where) {
            return longest - begin[where] - hours[where] - tail[where];
        }
    }

    /** Shortest ways to a task. */
    private static final class Ways {
        /** Of each task how many arrows are left to the end; NONE if there is no way. */
        final int[] left = new int[MAX_TASKS];

        void measure(Net net, int end) {
            Arrays.fill(left, NONE);
            left[end] = 0;
            int edge = 1 << end;
            for (int arrows = 1; arrows < net.tasks && edge != 0; arrows++) {
                int found = 0;
                for (int t = 0; t < net.tasks; t++) {
                    if (left[t] == NONE && (net.next[t] & edge) != 0) {
                        left[t] = arrows;
                        found |= 1 << t;
                    }
                }
                edge = found;
            }
        }

        /** The task behind one on its shortest way, of several the least; NONE if there is none. */
        int stepFrom(Net net, int task) {
            for (int t = 0; t < net.tasks; t++) {
                if (has(net.next[task], t) && left[t] != NONE && left[t] == left[task] - 1) {
                    return t;
                }
            }
            return NONE;
        }
    }

    /** The input buffer, its words and numbers, and the latest error. */
    private static final class Reader {
        private final byte[] text = new byte[MAX_INPUT];
        int size = 0;
        private int at = 0;
        /** Where the latest word or number begins. */
        int start = 0;
        int code = 0;
        int position = NONE;

        void putNumber(int number) {
            for (int shift = 24; shift >= 0; shift -= 8) {
                if (size < MAX_INPUT) {
                    text[size] = (byte) (number >> shift);
                    size++;
                }
            }
        }

        void begin() {
            at = 0;
            start = 0;
            code = 0;
            position = NONE;
        }

        boolean fail(int error, int where) {
            code = error;
            position = where;
            return false;
        }

        void skipSpaces() {
            while (at < size && text[at] == ' ') {
                at++;
            }
        }

        boolean isAtEnd() {
            return at >= size;
        }

        private boolean isLetterAt(int index) {
            return index < size && text[index] >= 'a' && text[index] <= 'z';
        }

        private boolean isDigitAt(int index) {
            return index < size && text[index] >= '0' && text[index] <= '9';
        }

        boolean readWord() {
            skipSpaces();
            start = at;
            while (at < MAX_INPUT && isLetterAt(at)) {
                at++;
            }
            return at > start || fail(BAD_TOKEN, start);
        }

        boolean wordIs(String word) {
            if (at - start != word.length()) {
                return false;
            }
            for (int k = 0; k < word.length(); k++) {
                if (text[start + k] != word.charAt(k)) {
                    return false;
                }
            }
            return true;
        }

        /** Reads a NAME; 0 behind an error. */
        long readName() {
            if (!readWord()) {
                return 0;
            }
            if (at - start > MAX_LETTERS) {
                fail(BAD_TOKEN, start);
                return 0;
            }
            return packed(start, at);
        }

        /** Reads the NAME of a task of a net; NONE behind an error. */
        int readTask(Net net) {
            long name = readName();
            if (name == 0) {
                return NONE;
            }
            int task = net.taskNamed(name);
            if (task == NONE) {
                fail(BAD_SENSE, start);
            }
            return task;
        }

        /** Reads a number of a range; NONE behind an error. */
        int readNumber(int least, int most) {
            skipSpaces();
            start = at;
            int value = 0;
            while (at < MAX_INPUT && isDigitAt(at)) {
                // only what has too many digits anyway can wrap round
                value = value * 10 + text[at] - '0';
                at++;
            }
            if (at == start || at - start > MAX_DIGITS) {
                fail(BAD_TOKEN, start);
                return NONE;
            }
            if (value < least || value > most) {
                fail(BAD_RANGE, start);
                return NONE;
            }
            return value;
        }

        boolean readSemicolon() {
            skipSpaces();
            if (isAtEnd() || text[at] != ';') {
                return fail(BAD_TOKEN, at);
            }
            at++;
            return true;
        }

        /** The whole buffer as a NAME, without a look at the latest error; 0 if it is none. */
        long wholeName() {
            if (size > MAX_LETTERS) {
                return 0;
            }
            for (int k = 0; k < size; k++) {
                if (!isLetterAt(k)) {
                    return 0;
                }
            }
            return packed(0, size);
        }

        private long packed(int first, int end) {
            long name = 0;
            for (int k = end - 1; k >= first; k--) {
                name = name << 8 | text[k];
            }
            return name;
        }
    }

    /** Reads descriptions (section 5). */
    private static final class Description {
        private boolean modeTold = false;
        private boolean joinTold = false;

        /** Builds a net from the text; false behind an error. */
        boolean readAll(Reader in, Net net, Repair repair) {
            net.clear();
            modeTold = false;
            joinTold = false;
            in.begin();
            boolean more = true;
            // each statement takes a byte at least
            for (int k = 0; k < MAX_INPUT && more; k++) {
                if (!readStatement(in, net, repair)) {
                    return false;
                }
                in.skipSpaces();
                more = !in.isAtEnd();
                if (more && !in.readSemicolon()) {
                    return false;
                }
            }
            net.clearAccounts();
            return true;
        }

        private boolean readStatement(Reader in, Net net, Repair repair) {
            if (!in.readWord()) {
                return false;
            }
            if (in.wordIs("task")) {
                return readNewTask(in, net);
            }
            if (net.tasks == 0) {
                return in.fail(BAD_TOKEN, in.start);
            }
            if (in.wordIs("arrow")) {
                return readArrow(in, net, repair);
            }
            if (in.wordIs("mode")) {
                return readMode(in, net);
            }
            if (in.wordIs("join")) {
                return readJoin(in, net);
            }
            return in.fail(BAD_TOKEN, in.start);
        }

        private boolean readNewTask(Reader in, Net net) {
            if (net.tasks >= MAX_TASKS) {
                return in.fail(TOO_MANY, in.start);
            }
            long name = in.readName();
            if (name == 0) {
                return false;
            }
            if (net.taskNamed(name) != NONE) {
                return in.fail(BAD_SENSE, in.start);
            }
            int hours = in.readNumber(1, MAX_HOURS);
            if (hours == NONE) {
                return false;
            }
            net.addTask(name, hours);
            return true;
        }

        private boolean readArrow(Reader in, Net net, Repair repair) {
            if (net.arrows >= MAX_ARROWS) {
                return in.fail(TOO_MANY, in.start);
            }
            int from = in.readTask(net);
            if (from == NONE) {
                return false;
            }
            int to = in.readTask(net);
            if (to == NONE) {
                return false;
            }
            if (net.refusal(from, to) != 0) {
                return in.fail(BAD_SENSE, in.start);
            }
            repair.bring(net, from, to);
            return true;
        }

        private boolean readMode(Reader in, Net net) {
            if (modeTold) {
                return in.fail(BAD_SENSE, in.start);
            }
            modeTold = true;
            net.mode = in.readNumber(0, MAX_MODE);
            return net.mode != NONE;
        }

        private boolean readJoin(Reader in, Net net) {
            if (joinTold) {
                return in.fail(BAD_SENSE, in.start);
            }
            joinTold = true;
            net.join = in.readNumber(0, MAX_JOIN);
            return net.join != NONE;
        }
    }

    /** Reads orders as a whole, then does them (section 6). */
    private static final class Orders {
        private static final int UNKNOWN = 0;
        private static final int ARROW = 1;
        private static final int CUT = 2;
        private static final int HOURS = 3;
        private static final int SWAP = 4;
        private static final int MODE = 5;
        private static final int JOIN = 6;
        private static final int REFRESH = 7;

        private final int[] kind = new int[MAX_ORDERS];
        private final int[] first = new int[MAX_ORDERS];
        private final int[] second = new int[MAX_ORDERS];
        private int count = 0;

        /** Reads all orders for the tasks of a net, which stays as it is; false behind an error. */
        boolean readAll(Reader in, Net net) {
            count = 0;
            in.begin();
            in.skipSpaces();
            for (int k = 0; k <= MAX_ORDERS && !in.isAtEnd(); k++) {
                if (!readOrder(in, net) || !in.readSemicolon()) {
                    return false;
                }
                in.skipSpaces();
                count++;
            }
            return true;
        }

        private boolean readOrder(Reader in, Net net) {
            if (!in.readWord()) {
                return false;
            }
            int told = kindOf(in);
            if (told == UNKNOWN) {
                return in.fail(BAD_TOKEN, in.start);
            }
            if (count >= MAX_ORDERS) {
                return in.fail(TOO_MANY, in.start);
            }
            kind[count] = told;
            first[count] = 0;
            second[count] = 0;
            switch (told) {
                case REFRESH: return true;
                case SWAP: return readFirst(in, MAX_SWAP);
                case MODE: return readFirst(in, MAX_MODE);
                case JOIN: return readFirst(in, MAX_JOIN);
                default: return readTasks(in, net, told);
            }
        }

        private static int kindOf(Reader in) {
            if (in.wordIs("arrow")) {
                return ARROW;
            }
            if (in.wordIs("cut")) {
                return CUT;
            }
            if (in.wordIs("hours")) {
                return HOURS;
            }
            if (in.wordIs("swap")) {
                return SWAP;
            }
            if (in.wordIs("mode")) {
                return MODE;
            }
            if (in.wordIs("join")) {
                return JOIN;
            }
            return in.wordIs("refresh") ? REFRESH : UNKNOWN;
        }

        private boolean readFirst(Reader in, int most) {
            first[count] = in.readNumber(0, most);
            return first[count] != NONE;
        }

        private boolean readTasks(Reader in, Net net, int told) {
            first[count] = in.readTask(net);
            if (first[count] == NONE) {
                return false;
            }
            second[count] = told == HOURS ? in.readNumber(1, MAX_HOURS) : in.readTask(net);
            return second[count] != NONE;
        }

        /** Does the orders that were read up to the first one that is refused; returns how many. */
        int runAll(Net net, Repair repair, Sorter sorter) {
            int done = 0;
            while (done < count && run(done, net, repair, sorter)) {
                done++;
            }
            return done;
        }

        private boolean run(int order, Net net, Repair repair, Sorter sorter) {
            int a = first[order];
            int b = second[order];
            switch (kind[order]) {
                case ARROW: return runArrow(a, b, net, repair);
                case CUT: return runCut(a, b, net, sorter);
                case HOURS:
                    net.hours[a] = b;
                    return true;
                case SWAP: return runSwap(a, net);
                case MODE:
                    net.mode = a;
                    return true;
                case JOIN:
                    net.join = a;
                    return true;
                default:
                    sorter.renew(net);
                    return true;
            }
        }

        private static boolean runArrow(int from, int to, Net net, Repair repair) {
            if (net.refusal(from, to) != 0) {
                return false;
            }
            repair.bring(net, from, to);
            return true;
        }

        private static boolean runCut(int from, int to, Net net, Sorter sorter) {
            int arrow = net.numberOf(from, to);
            if (arrow == NONE) {
                return false;
            }
            sorter.cutOff(net, arrow);
            return true;
        }

        private static boolean runSwap(int where, Net net) {
            if (where + 1 >= net.groups || net.leadsOn(where)) {
                return false;
            }
            net.swapAt(where);
            return true;
        }
    }

    /** The output text. */
    private static final class Output {
        final byte[] text = new byte[MAX_OUTPUT];
        int size = 0;

        void put(int sign) {
            if (size < MAX_OUTPUT) {
                text[size] = (byte) sign;
                size++;
            }
        }

        void putName(long name) {
            for (int k = 0; k < MAX_LETTERS; k++) {
                int letter = letterOf(name, k);
                if (letter != 0) {
                    put(letter);
                }
            }
        }

        void putGroup(Net net, int members) {
            boolean several = Integer.bitCount(members) > 1;
            if (several) {
                put('(');
            }
            for (int t = 0; t < net.tasks; t++) {
                if (has(members, t)) {
                    if (t != headOf(members)) {
                        put('+');
                    }
                    putName(net.name[t]);
                }
            }
            if (several) {
                put(')');
            }
        }
    }
}
