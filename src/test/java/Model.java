import java.util.ArrayDeque;
import java.util.ArrayList;
import java.util.HashMap;
import java.util.HashSet;
import java.util.LinkedHashSet;
import java.util.List;
import java.util.Map;
import java.util.Set;
import java.util.TreeSet;

/**
 * The document said once more, as slowly and plainly as can be: nodes are texts, dependences are sets
 * of texts, and the run is a recursion over the blocks. Only for comparing answers.
 */
final class Model {
    private static final String[] INS = {"ARG0", "ARG1", "BEFORE"};
    private static final String[] OUTS = {"VALUE", "AFTER", "STOPS"};
    private static final String[] PARAMS = {"PARAM0", "PARAM1", "HEAPIN"};
    private static final String[] ENDS = {"RESULT", "HEAPOUT", "STOP"};

    private final List<int[]> code = new ArrayList<>();
    private boolean built;
    private final int[] inputs = new int[4];
    private int levelCount = 1;
    private boolean[][] told = new boolean[5][5];
    private int[] inputLevel = new int[4];
    private int[] channelLevel = new int[4];

    private int[] home;
    private int[] around;
    private int[] elseOf;
    private int[] endOf;
    private int procedures;
    private final Map<Integer, Set<Integer>> ways = new HashMap<>();
    private final Map<String, Set<String>> inside = new HashMap<>();
    private final Map<String, Set<String>> up = new HashMap<>();
    private final Map<String, Set<String>> down = new HashMap<>();
    private final Map<String, Integer> kinds = new HashMap<>();

    private Set<String> sliceNodes;
    private boolean sliceForward;
    private int sliceOf;

    private boolean ran;
    private int stepCount;
    private final List<Integer> seenValues = new ArrayList<>();
    private final List<List<Integer>> writtenValues = new ArrayList<>();
    private Set<Integer> doing;
    private int fuelLeft;
    private int[] heap;

    private static final class Ended extends Exception {
        private static final long serialVersionUID = 1L;
        final int how;

        Ended(int how) {
            this.how = how;
        }
    }

    Model() {
        for (int c = 0; c < 4; c++) {
            writtenValues.add(new ArrayList<>());
        }
    }

    private static boolean four(int k) {
        return 0 <= k && k <= 3;
    }

    private int op(int i) {
        return code.get(i)[0];
    }

    private boolean call(int i) {
        return op(i) >= 13 && op(i) <= 16;
    }

    private boolean node(int i) {
        return 0 <= i && i < code.size() && op(i) != 10 && op(i) != 12 && op(i) != 18;
    }

    private int defined(int i) {
        return op(i) <= 7 || call(i) ? code.get(i)[1] : -1;
    }

    int add(int op, int d, int a, int b) {
        if (built || code.size() == 32 || op < 0 || op > 18) {
            return -1;
        }
        boolean fine;
        if (op == 0) {
            fine = four(d);
        } else if (op <= 5 || (op >= 13 && op <= 16)) {
            fine = four(d) && four(a) && four(b);
        } else if (op == 6 || op == 7 || op == 17) {
            fine = four(d) && four(a);
        } else if (op == 8) {
            fine = four(a) && four(b);
        } else if (op == 9 || op == 11) {
            fine = four(a);
        } else {
            fine = true;
        }
        if (!fine) {
            return -1;
        }
        code.add(new int[] {op, d, a, b});
        return code.size() - 1;
    }

    void clear() {
        code.clear();
        built = false;
        sliceNodes = null;
        noRun();
    }

    private void noRun() {
        ran = false;
        seenValues.clear();
        for (List<Integer> list : writtenValues) {
            list.clear();
        }
    }

    int build() {
        if (built) {
            return -2;
        }
        int wrong = structure();
        if (wrong >= 0) {
            return -3 - wrong;
        }
        built = true;
        makeWays();
        makeDependences();
        return 0;
    }

    private int structure() {
        int size = code.size();
        home = new int[size];
        around = new int[size];
        elseOf = new int[size];
        endOf = new int[size];
        procedures = 1;
        ArrayDeque<Integer> open = new ArrayDeque<>();
        for (int i = 0; i < size; i++) {
            home[i] = procedures - 1;
            around[i] = open.isEmpty() ? -1 : open.peek();
            elseOf[i] = -1;
            int op = op(i);
            if (op == 10) {
                if (open.isEmpty() || op(open.peek()) != 9 || elseOf[open.peek()] != -1) {
                    return i;
                }
                elseOf[open.peek()] = i;
            } else if (op == 12) {
                if (open.isEmpty()) {
                    return i;
                }
                endOf[open.pop()] = i;
            } else if (op == 18) {
                if (!open.isEmpty() || procedures == 4) {
                    return i;
                }
                procedures++;
            } else if (op == 9 || op == 11) {
                if (open.size() == 4) {
                    return i;
                }
                open.push(i);
            }
        }
        if (!open.isEmpty()) {
            return size;
        }
        for (int i = 0; i < size; i++) {
            if (call(i) && op(i) - 13 >= procedures) {
                return i;
            }
        }
        return -1;
    }

    /** An EXIT is 1000 and its procedure. */
    private int place(int i, int procedure) {
        return i == code.size() || op(i) == 18 ? 1000 + procedure : i;
    }

    private int start(int procedure) {
        int p = 0;
        for (int i = 0; i < code.size(); i++) {
            if (p == procedure) {
                return place(i, procedure);
            }
            if (op(i) == 18) {
                p++;
            }
        }
        return 1000 + procedure;
    }

    private void makeWays() {
        ways.clear();
        for (int i = 0; i < code.size(); i++) {
            Set<Integer> next = new HashSet<>();
            if (op(i) == 9) {
                next.add(i + 1);
                next.add(elseOf[i] >= 0 ? elseOf[i] + 1 : endOf[i]);
            } else if (op(i) == 10) {
                next.add(endOf[around[i]]);
            } else if (op(i) == 11) {
                next.add(i + 1);
                next.add(place(endOf[i] + 1, home[i]));
            } else if (op(i) == 12 && op(around[i]) == 11) {
                next.add(around[i]);
            } else if (op(i) != 18) {
                next.add(place(i + 1, home[i]));
            }
            ways.put(i, next);
        }
        for (int p = 0; p < procedures; p++) {
            ways.put(1000 + p, new HashSet<>());
        }
    }

    /** Where ways lead to from the places, none going on through a definition of x. */
    private Set<Integer> goOn(Set<Integer> from, int x) {
        Set<Integer> all = new HashSet<>(from);
        ArrayDeque<Integer> todo = new ArrayDeque<>(from);
        while (!todo.isEmpty()) {
            int at = todo.pop();
            if (at < 1000 && x >= 0 && defined(at) == x) {
                continue;
            }
            for (int next : ways.get(at)) {
                if (all.add(next)) {
                    todo.push(next);
                }
            }
        }
        return all;
    }

    private boolean reached(int from, int to) {
        return goOn(ways.get(from), -1).contains(to);
    }

    private static void put(Map<String, Set<String>> map, String from, String to) {
        map.computeIfAbsent(from, key -> new TreeSet<>()).add(to);
    }

    private static String instruction(int i) {
        return "I@" + i;
    }

    private static String part(String name, int i) {
        return name + "@" + i;
    }

    private static String side(String name, int p) {
        return name + "#" + p;
    }

    private void dependence(int kind, String from, String to) {
        put(inside, from, to);
        if (from.contains("@") && to.contains("@")) {
            String pair = from.substring(from.indexOf('@')) + to.substring(to.indexOf('@'));
            kinds.merge(pair, kind, (a, b) -> a | b);
        }
    }

    private void makeDependences() {
        inside.clear();
        up.clear();
        down.clear();
        kinds.clear();
        for (int i = 0; i < code.size(); i++) {
            if (node(i)) {
                control(i);
                reads(i);
                heap(i);
                halt(i);
            }
        }
        for (int p = 0; p < procedures; p++) {
            read("RESULT#" + p, 1000 + p, 0, p);
            for (int i = 0; i < code.size(); i++) {
                if (home[i] == p && op(i) == 8) {
                    put(inside, side("HEAPOUT", p), instruction(i));
                }
                if (home[i] == p && op(i) == 5) {
                    put(inside, side("STOP", p), instruction(i));
                }
                if (home[i] == p && call(i)) {
                    put(inside, side("HEAPOUT", p), part("AFTER", i));
                    put(inside, side("STOP", p), part("STOPS", i));
                }
            }
        }
        summaries();
    }

    private void control(int i) {
        dependence(1, instruction(i), around[i] < 0 ? side("ENTRY", home[i]) : instruction(around[i]));
        if (!call(i)) {
            return;
        }
        int q = op(i) - 13;
        put(up, side("ENTRY", q), instruction(i));
        for (int k = 0; k < 3; k++) {
            put(inside, part(INS[k], i), instruction(i));
            put(inside, part(OUTS[k], i), instruction(i));
            put(up, side(PARAMS[k], q), part(INS[k], i));
            put(down, part(OUTS[k], i), side(ENDS[k], q));
        }
    }

    private void reads(int i) {
        int a = code.get(i)[2];
        int b = code.get(i)[3];
        if (call(i)) {
            read(part("ARG0", i), i, a, home[i]);
            read(part("ARG1", i), i, b, home[i]);
        } else if ((op(i) >= 1 && op(i) <= 5) || op(i) == 8) {
            read(instruction(i), i, a, home[i]);
            read(instruction(i), i, b, home[i]);
        } else if (op(i) == 7 || op(i) == 9 || op(i) == 11 || op(i) == 17) {
            read(instruction(i), i, a, home[i]);
        }
    }

    private void read(String node, int at, int x, int p) {
        for (int n = 0; n < code.size(); n++) {
            if (home[n] == p && defined(n) == x && goOn(ways.get(n), x).contains(at)) {
                dependence(2, node, call(n) ? part("VALUE", n) : instruction(n));
            }
        }
        if (x < 2 && goOn(Set.of(start(p)), x).contains(at)) {
            dependence(2, node, side("PARAM" + x, p));
        }
    }

    private void heap(int i) {
        if (op(i) != 7 && !call(i)) {
            return;
        }
        String node = call(i) ? part("BEFORE", i) : instruction(i);
        put(inside, node, side("HEAPIN", home[i]));
        for (int n = 0; n < code.size(); n++) {
            if (reached(n, i) && op(n) == 8) {
                dependence(4, node, instruction(n));
            }
            if (reached(n, i) && call(n)) {
                dependence(4, node, part("AFTER", n));
            }
        }
    }

    private void halt(int i) {
        for (int n = 0; n < code.size(); n++) {
            if (reached(n, i) && op(n) == 5) {
                dependence(8, instruction(i), instruction(n));
            }
            if (reached(n, i) && call(n)) {
                dependence(8, instruction(i), part("STOPS", n));
            }
        }
    }

    private void summaries() {
        boolean grown = true;
        while (grown) {
            grown = false;
            for (int i = 0; i < code.size(); i++) {
                if (!call(i)) {
                    continue;
                }
                int q = op(i) - 13;
                for (int to = 0; to < 3; to++) {
                    Set<String> all = closure(Set.of(side(ENDS[to], q)), List.of(inside));
                    for (int of = 0; of < 3; of++) {
                        if (all.contains(side(PARAMS[of], q)) && !summary(i, to, of)) {
                            put(inside, part(OUTS[to], i), part(INS[of], i));
                            grown = true;
                        }
                    }
                }
            }
        }
    }

    private static Set<String> closure(Set<String> from, List<Map<String, Set<String>>> maps) {
        Set<String> all = new LinkedHashSet<>(from);
        ArrayDeque<String> todo = new ArrayDeque<>(from);
        while (!todo.isEmpty()) {
            String at = todo.pop();
            for (Map<String, Set<String>> map : maps) {
                for (String next : map.getOrDefault(at, Set.of())) {
                    if (all.add(next)) {
                        todo.push(next);
                    }
                }
            }
        }
        return all;
    }

    private static Map<String, Set<String>> turned(Map<String, Set<String>> map) {
        Map<String, Set<String>> other = new HashMap<>();
        map.forEach((from, set) -> set.forEach(to -> put(other, to, from)));
        return other;
    }

    private Set<String> backward(String node) {
        Set<String> first = closure(Set.of(node), List.of(inside, up));
        return closure(first, List.of(inside, down));
    }

    private Set<String> forward(String node) {
        Set<String> first = closure(Set.of(node), List.of(turned(inside), turned(down)));
        return closure(first, List.of(turned(inside), turned(up)));
    }

    private static int instructionsIn(Set<String> nodes) {
        int sum = 0;
        for (String node : nodes) {
            if (node.startsWith("I@")) {
                sum++;
            }
        }
        return sum;
    }

    boolean levels(int n) {
        if (n < 1 || n > 5) {
            return false;
        }
        levelCount = n;
        told = new boolean[5][5];
        inputLevel = new int[4];
        channelLevel = new int[4];
        return true;
    }

    private boolean level(int k) {
        return 0 <= k && k < levelCount;
    }

    boolean below(int a, int b) {
        if (!level(a) || !level(b)) {
            return false;
        }
        told[a][b] = true;
        return true;
    }

    boolean label(boolean channel, int k, int level) {
        if (!four(k) || !level(level)) {
            return false;
        }
        (channel ? channelLevel : inputLevel)[k] = level;
        return true;
    }

    private boolean[][] order() {
        boolean[][] order = new boolean[levelCount][levelCount];
        for (int a = 0; a < levelCount; a++) {
            for (int b = 0; b < levelCount; b++) {
                order[a][b] = a == b || told[a][b];
            }
        }
        for (int via = 0; via < levelCount; via++) {
            for (int a = 0; a < levelCount; a++) {
                for (int b = 0; b < levelCount; b++) {
                    order[a][b] |= order[a][via] && order[via][b];
                }
            }
        }
        return order;
    }

    int lattice() {
        boolean[][] order = order();
        boolean joins = true;
        for (int a = 0; a < levelCount; a++) {
            for (int b = 0; b < levelCount; b++) {
                if (a != b && order[a][b] && order[b][a]) {
                    return 1;
                }
                boolean least = false;
                for (int u = 0; u < levelCount; u++) {
                    boolean good = order[a][u] && order[b][u];
                    for (int v = 0; v < levelCount; v++) {
                        good &= !(order[a][v] && order[b][v]) || order[u][v];
                    }
                    least |= good;
                }
                joins &= least;
            }
        }
        return !joins ? 2 : bottom() < 0 ? 3 : 0;
    }

    private int bottom() {
        boolean[][] order = order();
        for (int a = 0; a < levelCount; a++) {
            boolean all = true;
            for (int b = 0; b < levelCount; b++) {
                all &= order[a][b];
            }
            if (all) {
                return a;
            }
        }
        return -1;
    }

    int depends(int n, int m) {
        return built && node(n) && node(m) ? kinds.getOrDefault("@" + n + "@" + m, 0) : 0;
    }

    boolean summary(int i, int to, int of) {
        return built && node(i) && call(i) && 0 <= to && to <= 2 && 0 <= of && of <= 2
                && inside.get(part(OUTS[to], i)).contains(part(INS[of], i));
    }

    int slice(int i, boolean isForward) {
        if (!built || !node(i)) {
            return -1;
        }
        sliceNodes = isForward ? forward(instruction(i)) : backward(instruction(i));
        sliceForward = isForward;
        sliceOf = i;
        noRun();
        return instructionsIn(sliceNodes);
    }

    int fit() {
        if (sliceNodes == null || sliceForward) {
            return -1;
        }
        boolean grown = true;
        while (grown) {
            grown = false;
            for (int i = 0; i < code.size(); i++) {
                for (int k = 0; call(i) && k < 3; k++) {
                    if (sliceNodes.contains(instruction(i)) && sliceNodes.contains(side(PARAMS[k], op(i) - 13))
                            && !sliceNodes.contains(part(INS[k], i))) {
                        sliceNodes.addAll(backward(part(INS[k], i)));
                        grown = true;
                    }
                }
            }
        }
        noRun();
        return instructionsIn(sliceNodes);
    }

    boolean sliced(int k) {
        return sliceNodes != null && sliceNodes.contains(instruction(k));
    }

    boolean input(int k, int v) {
        if (!four(k)) {
            return false;
        }
        inputs[k] = v;
        return true;
    }

    int run(boolean whole, int fuel) {
        if (!built || fuel < 0 || fuel > 600 || (!whole && (sliceNodes == null || sliceForward))) {
            return -1;
        }
        noRun();
        ran = true;
        stepCount = 0;
        fuelLeft = fuel;
        heap = new int[4];
        doing = new HashSet<>();
        for (int i = 0; i < code.size(); i++) {
            if (node(i) && (whole || sliced(i))) {
                doing.add(i);
            }
        }
        try {
            procedure(0, 0, 0, 1);
            return 0;
        } catch (Ended ended) {
            return ended.how;
        }
    }

    private int procedure(int p, int x0, int x1, int underWay) throws Ended {
        int[] x = {x0, x1, 0, 0};
        int first = start(p);
        if (first < 1000) {
            int last = first;
            while (last < code.size() && op(last) != 18) {
                last++;
            }
            block(first, last, x, underWay);
        }
        return x[0];
    }

    private void block(int from, int to, int[] x, int underWay) throws Ended {
        for (int i = from; i < to; i++) {
            if (op(i) != 9 && op(i) != 11) {
                if (doing.contains(i)) {
                    plain(i, x, underWay);
                }
                continue;
            }
            if (doing.contains(i)) {
                branch(i, x, underWay);
            }
            i = endOf[i];
        }
    }

    private void branch(int i, int[] x, int underWay) throws Ended {
        boolean again = true;
        while (again) {
            step();
            int value = x[code.get(i)[2]];
            see(i, value);
            int middle = elseOf[i] >= 0 ? elseOf[i] : endOf[i];
            if (value != 0) {
                block(i + 1, middle, x, underWay);
            } else if (elseOf[i] >= 0) {
                block(middle + 1, endOf[i], x, underWay);
            }
            again = op(i) == 11 && value != 0;
        }
    }

    private void step() throws Ended {
        if (fuelLeft == 0) {
            throw new Ended(2);
        }
        fuelLeft--;
        stepCount++;
    }

    private void see(int i, int value) {
        if (sliceNodes != null && sliceOf == i) {
            seenValues.add(value);
        }
    }

    private void plain(int i, int[] x, int underWay) throws Ended {
        step();
        int d = code.get(i)[1];
        int a = code.get(i)[2];
        int b = code.get(i)[3];
        if (call(i)) {
            if (underWay == 7) {
                throw new Ended(2);
            }
            x[d] = procedure(op(i) - 13, x[a], x[b], underWay + 1);
        } else if (op(i) == 8) {
            heap[x[a] & 3] = x[b];
            see(i, x[b]);
        } else if (op(i) == 17) {
            writtenValues.get(d).add(x[a]);
            see(i, x[a]);
        } else {
            if (op(i) == 5 && x[b] == 0) {
                throw new Ended(1);
            }
            x[d] = value(op(i), a, b, x);
            see(i, x[d]);
        }
    }

    private int value(int op, int a, int b, int[] x) {
        return switch (op) {
            case 0 -> a;
            case 1 -> x[a] + x[b];
            case 2 -> x[a] - x[b];
            case 3 -> x[a] * x[b];
            case 4 -> x[a] < x[b] ? 1 : 0;
            case 5 -> x[a] / x[b];
            case 6 -> inputs[a];
            default -> heap[x[a] & 3];
        };
    }

    int steps() {
        return ran ? stepCount : -1;
    }

    private static int pick(List<Integer> list, int k, int most) {
        if (k == -1) {
            return list.size();
        }
        return 0 <= k && k <= most && k < list.size() ? list.get(k) : 0;
    }

    int seen(int k) {
        return ran && sliceNodes != null ? pick(seenValues, k, 59) : 0;
    }

    int written(int channel, int k) {
        return ran && four(channel) ? pick(writtenValues.get(channel), k, 39) : 0;
    }

    private List<Integer> flows() {
        List<Integer> list = new ArrayList<>();
        boolean[][] order = order();
        for (int sink = 0; sink < code.size(); sink++) {
            if (op(sink) != 17 && op(sink) != 5) {
                continue;
            }
            int level = op(sink) == 5 ? bottom() : channelLevel[code.get(sink)[1]];
            Set<String> nodes = backward(instruction(sink));
            for (int i = 0; i < code.size(); i++) {
                if (op(i) == 6 && nodes.contains(instruction(i)) && !order[inputLevel[code.get(i)[2]]][level]) {
                    list.add(32 * i + sink);
                }
            }
        }
        return list;
    }

    int check() {
        return !built || lattice() != 0 ? -1 : flows().size();
    }

    int flow(int j) {
        if (!built || lattice() != 0) {
            return -1;
        }
        List<Integer> list = flows();
        return 0 <= j && j < list.size() ? list.get(j) : -1;
    }
}
