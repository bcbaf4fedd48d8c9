import java.util.ArrayList;
import java.util.List;
import java.util.TreeSet;

/** A plain second writing of the document, with lists and searches in place of sets of bits. */
final class Model {
    /** What changes take back. */
    static final class Net {
        List<String> names = new ArrayList<>();
        List<Integer> hours = new ArrayList<>();
        List<int[]> arrows = new ArrayList<>();
        List<TreeSet<Integer>> order = new ArrayList<>();
        int mode;
        int join;
        long[] accounts = new long[9];

        Net copy() {
            Net net = new Net();
            net.names.addAll(names);
            net.hours.addAll(hours);
            net.arrows.addAll(arrows);
            for (TreeSet<Integer> group : order) {
                net.order.add(new TreeSet<>(group));
            }
            net.mode = mode;
            net.join = join;
            net.accounts = accounts.clone();
            return net;
        }
    }

    /** What an arrow would do. */
    static final class Outcome {
        int affected;
        int behind;
        int ahead;
        int joined;
        int looked;
        int moved;
        List<TreeSet<Integer>> order;
    }

    Net net = new Net();
    List<Net> past = new ArrayList<>();
    Net saved;
    String buffer = "";
    String output = "";
    int code = 0;
    int position = -1;

    Model() {
        newTask(net, "a", 1);
    }

    static void newTask(Net n, String name, int hours) {
        n.names.add(name);
        n.hours.add(hours);
        TreeSet<Integer> group = new TreeSet<>();
        group.add(n.names.size() - 1);
        n.order.add(group);
    }

    // ---- looking ----

    static boolean leads(Net n, int a, int b) {
        return numberOf(n, a, b) >= 0;
    }

    static int numberOf(Net n, int a, int b) {
        for (int i = 0; i < n.arrows.size(); i++) {
            if (n.arrows.get(i)[0] == a && n.arrows.get(i)[1] == b) {
                return i;
            }
        }
        return -1;
    }

    static int placeOf(Net n, int task) {
        for (int p = 0; p < n.order.size(); p++) {
            if (n.order.get(p).contains(task)) {
                return p;
            }
        }
        throw new AssertionError("a task without a group");
    }

    /** Lengths of the shortest ways from a task; -1 where there is none. */
    static int[] distances(Net n, int from) {
        int[] far = new int[n.names.size()];
        java.util.Arrays.fill(far, -1);
        far[from] = 0;
        List<Integer> queue = new ArrayList<>();
        queue.add(from);
        for (int at = 0; at < queue.size(); at++) {
            for (int[] arrow : n.arrows) {
                if (arrow[0] == queue.get(at) && far[arrow[1]] < 0) {
                    far[arrow[1]] = far[arrow[0]] + 1;
                    queue.add(arrow[1]);
                }
            }
        }
        return far;
    }

    static boolean reaches(Net n, int a, int b) {
        return distances(n, a)[b] >= 0;
    }

    static boolean groupLeads(Net n, TreeSet<Integer> a, TreeSet<Integer> b) {
        for (int[] arrow : n.arrows) {
            if (a.contains(arrow[0]) && b.contains(arrow[1])) {
                return true;
            }
        }
        return false;
    }

    /** The shortest way whose tasks are least one after the other, found by trying them in order. */
    static List<Integer> way(Net n, int from, int to) {
        List<Integer> way = new ArrayList<>();
        if (!reaches(n, from, to)) {
            return way;
        }
        int task = from;
        way.add(task);
        while (task != to) {
            int left = distances(n, task)[to];
            int next = 0;
            while (!(leads(n, task, next) && distances(n, next)[to] == left - 1)) {
                next++;
            }
            task = next;
            way.add(task);
        }
        return way;
    }

    // ---- section 3 ----

    static int refusal(Net n, int a, int b) {
        if (a == b) {
            return 1;
        }
        if (leads(n, a, b)) {
            return 2;
        }
        if (n.arrows.size() == 60) {
            return 3;
        }
        return n.join == 0 && placeOf(n, a) != placeOf(n, b) && reaches(n, b, a) ? 4 : 0;
    }

    static Outcome outcome(Net n, int a, int b, int mode) {
        Outcome out = new Outcome();
        int low = placeOf(n, b);
        int high = placeOf(n, a);
        out.order = new ArrayList<>(n.order);
        if (low >= high) {
            return out;
        }
        List<TreeSet<Integer>> part = new ArrayList<>(n.order.subList(low, high + 1));
        List<TreeSet<Integer>> behind = new ArrayList<>();
        List<TreeSet<Integer>> ahead = new ArrayList<>();
        TreeSet<Integer> joined = new TreeSet<>();
        for (TreeSet<Integer> group : part) {
            if (reaches(n, b, group.last())) {
                behind.add(group);
            }
            if (reaches(n, group.last(), a)) {
                ahead.add(group);
            }
            if (behind.contains(group) && ahead.contains(group)) {
                joined.addAll(group);
                out.joined++;
            }
        }
        out.affected = part.size();
        out.behind = behind.size();
        out.ahead = ahead.size();
        for (int[] arrow : n.arrows) {
            TreeSet<Integer> from = n.order.get(placeOf(n, arrow[0]));
            TreeSet<Integer> to = n.order.get(placeOf(n, arrow[1]));
            if (from != to) {
                out.looked += (behind.contains(from) ? 1 : 0) + (ahead.contains(to) ? 1 : 0);
            }
        }
        List<TreeSet<Integer>> repaired = repaired(part, behind, ahead, joined, mode);
        for (int k = 0; k < repaired.size(); k++) {
            boolean stays = true;
            for (int task : repaired.get(k)) {
                stays &= placeOf(n, task) == low + k;
            }
            out.moved += stays ? 0 : 1;
        }
        out.order = new ArrayList<>(n.order.subList(0, low));
        out.order.addAll(repaired);
        out.order.addAll(n.order.subList(high + 1, n.order.size()));
        return out;
    }

    private static List<TreeSet<Integer>> repaired(List<TreeSet<Integer>> part, List<TreeSet<Integer>> behind,
            List<TreeSet<Integer>> ahead, TreeSet<Integer> joined, int mode) {
        List<TreeSet<Integer>> aheadAlone = new ArrayList<>(ahead);
        aheadAlone.removeAll(behind);
        List<TreeSet<Integer>> behindAlone = new ArrayList<>(behind);
        behindAlone.removeAll(ahead);
        List<TreeSet<Integer>> row = new ArrayList<>();
        if (mode == 0) {
            List<Integer> places = new ArrayList<>();
            for (int k = 0; k < part.size(); k++) {
                boolean dealt = behind.contains(part.get(k)) || ahead.contains(part.get(k));
                row.add(dealt ? null : part.get(k));
                if (dealt) {
                    places.add(k);
                }
            }
            for (int k = 0; k < aheadAlone.size(); k++) {
                row.set(places.get(k), aheadAlone.get(k));
            }
            if (!joined.isEmpty()) {
                row.set(places.get(aheadAlone.size()), joined);
            }
            int first = places.size() - behindAlone.size();
            for (int k = 0; k < behindAlone.size(); k++) {
                row.set(places.get(first + k), behindAlone.get(k));
            }
            row.removeIf(group -> group == null);
            return row;
        }
        List<TreeSet<Integer>> front = new ArrayList<>(part);
        List<TreeSet<Integer>> back = new ArrayList<>(part);
        if (mode == 1) {
            front.removeAll(behind);
            back = behindAlone;
        } else {
            front = aheadAlone;
            back.removeAll(ahead);
        }
        row.addAll(front);
        if (!joined.isEmpty()) {
            row.add(joined);
        }
        row.addAll(back);
        return row;
    }

    static int bring(Net n, int a, int b) {
        Outcome out = outcome(n, a, b, n.mode);
        n.order = new ArrayList<>();
        for (TreeSet<Integer> group : out.order) {
            n.order.add(new TreeSet<>(group));
        }
        n.arrows.add(new int[] {a, b});
        n.accounts[0]++;
        if (out.affected > 0) {
            n.accounts[2]++;
            n.accounts[3] += out.affected;
            n.accounts[4] += out.looked;
            n.accounts[5] += out.moved;
            n.accounts[6] += out.joined;
        }
        return out.moved;
    }

    // ---- section 4 ----

    static List<TreeSet<Integer>> parts(Net n, TreeSet<Integer> tasks) {
        List<TreeSet<Integer>> parts = new ArrayList<>();
        for (int t : tasks) {
            TreeSet<Integer> part = new TreeSet<>();
            for (int u : tasks) {
                if (reaches(n, t, u) && reaches(n, u, t)) {
                    part.add(u);
                }
            }
            if (!parts.contains(part)) {
                parts.add(part);
            }
        }
        return parts;
    }

    static List<TreeSet<Integer>> freshOf(Net n, List<TreeSet<Integer>> groups) {
        List<TreeSet<Integer>> left = new ArrayList<>(groups);
        List<TreeSet<Integer>> row = new ArrayList<>();
        while (!left.isEmpty()) {
            TreeSet<Integer> best = null;
            for (TreeSet<Integer> group : left) {
                boolean free = true;
                for (TreeSet<Integer> other : left) {
                    free &= other == group || !groupLeads(n, other, group);
                }
                if (free && (best == null || group.first() < best.first())) {
                    best = group;
                }
            }
            row.add(best);
            left.remove(best);
        }
        return row;
    }

    static int cutOff(Net n, int arrow) {
        int[] ends = n.arrows.get(arrow);
        int place = placeOf(n, ends[0]);
        boolean inner = place == placeOf(n, ends[1]);
        n.arrows.remove(arrow);
        n.accounts[1]++;
        if (!inner) {
            return 0;
        }
        List<TreeSet<Integer>> parts = freshOf(n, parts(n, n.order.get(place)));
        n.order.remove(place);
        n.order.addAll(place, parts);
        n.accounts[7] += parts.size() > 1 ? parts.size() : 0;
        return parts.size();
    }

    static int renew(Net n) {
        List<TreeSet<Integer>> row = freshOf(n, n.order);
        int moved = 0;
        for (int p = 0; p < row.size(); p++) {
            moved += row.get(p) == n.order.get(p) ? 0 : 1;
        }
        n.order = row;
        return moved;
    }

    static int swapAt(Net n, int place) {
        if (groupLeads(n, n.order.get(place), n.order.get(place + 1))) {
            return -5;
        }
        n.order.add(place, n.order.remove(place + 1));
        n.accounts[8]++;
        return n.order.get(place).first();
    }

    // ---- chains, by following every chain ----

    static int hoursOf(Net n, int place) {
        int sum = 0;
        for (int task : n.order.get(place)) {
            sum += n.hours.get(task);
        }
        return sum;
    }

    /** The most that a chain which ends with a group has ahead of it: groups, or HOURS. */
    static int most(Net n, int place, boolean byHours, boolean backwards, int[] known) {
        if (known[place] >= 0) {
            return known[place];
        }
        int most = 0;
        for (int p = 0; p < n.order.size(); p++) {
            boolean joins = backwards ? groupLeads(n, n.order.get(place), n.order.get(p))
                    : groupLeads(n, n.order.get(p), n.order.get(place));
            if (p != place && joins) {
                most = Math.max(most, most(n, p, byHours, backwards, known) + (byHours ? hoursOf(n, p) : 1));
            }
        }
        known[place] = most;
        return most;
    }

    static int[] unknown() {
        int[] row = new int[24];
        java.util.Arrays.fill(row, -1);
        return row;
    }

    static int through(Net n, int place) {
        return most(n, place, true, false, unknown()) + hoursOf(n, place) + most(n, place, true, true, unknown());
    }

    static int longest(Net n) {
        int longest = 0;
        for (int p = 0; p < n.order.size(); p++) {
            longest = Math.max(longest, through(n, p));
        }
        return longest;
    }

    // ---- texts ----

    static final class Token {
        char kind;
        String text;
        int at;
    }

    /** Words 'w', numbers 'n', other bytes 'o', the end 'e'. */
    static List<Token> tokens(String text) {
        List<Token> row = new ArrayList<>();
        java.util.regex.Matcher matcher = java.util.regex.Pattern.compile("[a-z]+|[0-9]+|[^ a-z0-9]", java.util.regex.Pattern.DOTALL)
                .matcher(text);
        while (matcher.find()) {
            Token token = new Token();
            token.text = matcher.group();
            token.at = matcher.start();
            char sign = token.text.charAt(0);
            token.kind = sign >= 'a' && sign <= 'z' ? 'w' : sign >= '0' && sign <= '9' ? 'n' : 'o';
            row.add(token);
        }
        Token end = new Token();
        end.kind = 'e';
        end.text = "";
        end.at = text.length();
        row.add(end);
        return row;
    }

    /** Ends the reading of a text. */
    static final class Wrong extends RuntimeException {
        private static final long serialVersionUID = 1L;
        final int code;
        final int at;

        Wrong(int code, int at) {
            this.code = code;
            this.at = at;
        }
    }

    private List<Token> row;
    private int next;

    private Token take(char kind) {
        Token token = row.get(next);
        if (token.kind != kind || kind == 'n' && token.text.length() > 3) {
            throw new Wrong(1, token.at);
        }
        next++;
        return token;
    }

    private Token takeName() {
        Token token = take('w');
        if (token.text.length() > 6) {
            throw new Wrong(1, token.at);
        }
        return token;
    }

    private int takeTask(Net n) {
        Token token = takeName();
        if (!n.names.contains(token.text)) {
            throw new Wrong(3, token.at);
        }
        return n.names.indexOf(token.text);
    }

    private int takeNumber(int least, int most) {
        Token token = take('n');
        int value = Integer.parseInt(token.text);
        if (value < least || value > most) {
            throw new Wrong(2, token.at);
        }
        return value;
    }

    private void takeSemicolon() {
        Token token = take(row.get(next).text.equals(";") ? 'o' : '!');
        assert token != null;
    }

    /** The number of tasks; -1 if the text has an error. */
    int readText() {
        row = tokens(buffer);
        next = 0;
        buffer = "";
        code = 0;
        position = -1;
        try {
            net = description();
            past.clear();
            return net.names.size();
        } catch (Wrong wrong) {
            code = wrong.code;
            position = wrong.at;
            return -1;
        }
    }

    private Net description() {
        Net n = new Net();
        boolean mode = false;
        boolean join = false;
        while (true) {
            Token word = take('w');
            if (!List.of("task", "arrow", "mode", "join").contains(word.text)
                    || n.names.isEmpty() && !word.text.equals("task")) {
                throw new Wrong(1, word.at);
            }
            if (word.text.equals("task")) {
                if (n.names.size() == 24) {
                    throw new Wrong(4, word.at);
                }
                Token name = takeName();
                if (n.names.contains(name.text)) {
                    throw new Wrong(3, name.at);
                }
                newTask(n, name.text, takeNumber(1, 9));
            } else if (word.text.equals("arrow")) {
                if (n.arrows.size() == 60) {
                    throw new Wrong(4, word.at);
                }
                int a = takeTask(n);
                int at = row.get(next).at;
                int b = takeTask(n);
                if (refusal(n, a, b) != 0) {
                    throw new Wrong(3, at);
                }
                bring(n, a, b);
            } else if (word.text.equals("mode")) {
                if (mode) {
                    throw new Wrong(3, word.at);
                }
                mode = true;
                n.mode = takeNumber(0, 2);
            } else {
                if (join) {
                    throw new Wrong(3, word.at);
                }
                join = true;
                n.join = takeNumber(0, 1);
            }
            if (row.get(next).kind == 'e') {
                n.accounts = new long[9];
                return n;
            }
            takeSemicolon();
        }
    }

    /** How many orders were done; -1 if the text has an error. */
    int runOrders() {
        row = tokens(buffer);
        next = 0;
        buffer = "";
        code = 0;
        position = -1;
        List<String> words = new ArrayList<>();
        List<int[]> numbers = new ArrayList<>();
        try {
            while (row.get(next).kind != 'e') {
                Token word = take('w');
                if (!List.of("arrow", "cut", "hours", "swap", "mode", "join", "refresh").contains(word.text)) {
                    throw new Wrong(1, word.at);
                }
                if (words.size() == 30) {
                    throw new Wrong(4, word.at);
                }
                int[] two = new int[2];
                switch (word.text) {
                    case "arrow":
                    case "cut":
                        two[0] = takeTask(net);
                        two[1] = takeTask(net);
                        break;
                    case "hours":
                        two[0] = takeTask(net);
                        two[1] = takeNumber(1, 9);
                        break;
                    case "swap":
                        two[0] = takeNumber(0, 22);
                        break;
                    case "mode":
                        two[0] = takeNumber(0, 2);
                        break;
                    case "join":
                        two[0] = takeNumber(0, 1);
                        break;
                    default:
                        break;
                }
                takeSemicolon();
                words.add(word.text);
                numbers.add(two);
            }
        } catch (Wrong wrong) {
            code = wrong.code;
            position = wrong.at;
            return -1;
        }
        remember();
        int done = 0;
        while (done < words.size() && doOne(words.get(done), numbers.get(done)[0], numbers.get(done)[1])) {
            done++;
        }
        return done;
    }

    private boolean doOne(String word, int a, int b) {
        switch (word) {
            case "arrow":
                if (refusal(net, a, b) != 0) {
                    return false;
                }
                bring(net, a, b);
                return true;
            case "cut":
                if (numberOf(net, a, b) < 0) {
                    return false;
                }
                cutOff(net, numberOf(net, a, b));
                return true;
            case "hours":
                net.hours.set(a, b);
                return true;
            case "swap":
                return a <= net.order.size() - 2 && swapAt(net, a) >= 0;
            case "mode":
                net.mode = a;
                return true;
            case "join":
                net.join = a;
                return true;
            default:
                renew(net);
                return true;
        }
    }

    // ---- changes ----

    void remember() {
        past.add(net.copy());
        if (past.size() > 8) {
            past.remove(0);
        }
    }

    int undo() {
        if (past.isEmpty()) {
            return -1;
        }
        net = past.remove(past.size() - 1);
        return past.size();
    }

    int make(int hours) {
        if (!buffer.matches("[a-z]{1,6}")) {
            return -8;
        }
        if (net.names.size() == 24) {
            return -6;
        }
        if (net.names.contains(buffer)) {
            return -7;
        }
        remember();
        newTask(net, buffer, hours);
        buffer = "";
        return net.names.size() - 1;
    }

    int add(int a, int b) {
        int reason = refusal(net, a, b);
        if (reason != 0) {
            return -reason;
        }
        remember();
        return bring(net, a, b);
    }

    int cut(int arrow) {
        remember();
        return cutOff(net, arrow);
    }

    int swap(int place) {
        if (groupLeads(net, net.order.get(place), net.order.get(place + 1))) {
            return -5;
        }
        remember();
        return swapAt(net, place);
    }

    // ---- texts out ----

    String orderText() {
        StringBuilder text = new StringBuilder();
        for (TreeSet<Integer> group : net.order) {
            List<String> names = new ArrayList<>();
            for (int task : group) {
                names.add(net.names.get(task));
            }
            String joined = String.join("+", names);
            text.append(text.length() == 0 ? "" : " ").append(names.size() > 1 ? "(" + joined + ")" : joined);
        }
        return text.toString();
    }

    String arrowsText(int task) {
        List<String> words = new ArrayList<>();
        for (int[] arrow : net.arrows) {
            if (arrow[0] == task) {
                words.add((placeOf(net, arrow[0]) == placeOf(net, arrow[1]) ? "=" : ">") + net.names.get(arrow[1]));
            }
        }
        return String.join(" ", words);
    }
}
