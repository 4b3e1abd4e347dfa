import java.util.Arrays;

/**
 * A desk that takes a small program of procedures, works out what in it depends on what, cuts slices
 * out of it, runs the program and its slices, and checks that no input flows to an output of a level
 * that may not know it.
 */
public final class ProgramSlices {
    private static final int CONST = 0;
    private static final int ADD = 1;
    private static final int SUB = 2;
    private static final int MUL = 3;
    private static final int LESS = 4;
    private static final int DIV = 5;
    private static final int INPUT = 6;
    private static final int LOAD = 7;
    private static final int STORE = 8;
    private static final int IF = 9;
    private static final int ELSE = 10;
    private static final int WHILE = 11;
    private static final int END = 12;
    private static final int FIRST_CALL = 13;
    private static final int LAST_CALL = 16;
    private static final int OUTPUT = 17;
    private static final int PROC = 18;

    private static final int MOST_INSTRUCTIONS = 32;
    private static final int MOST_PROCEDURES = 4;
    private static final int MOST_OPEN = 4;
    private static final int MOST_LEVELS = 5;
    private static final int MOST_FUEL = 600;
    private static final int MOST_UNDER_WAY = 7;
    private static final int MOST_SEEN = 60;
    private static final int MOST_WRITTEN = 40;
    /** Variables, heap cells, inputs and channels: there are four of each. */
    private static final int FOUR = 4;

    private static final int NONE = -1;
    private static final int REFUSED = -1;

    /**
     * The seven parts of a CALL, and of a procedure, bear the same numbers, since each part of a CALL
     * belongs to one part of its procedure: the CALL itself to ENTRY, ARG 0 to PARAM 0, and so on.
     */
    private static final int PARTS = 7;
    private static final int ARG_0 = 1;
    private static final int ARG_1 = 2;
    private static final int BEFORE = 3;
    private static final int VALUE = 4;
    private static final int AFTER = 5;
    private static final int STOPS = 6;
    private static final int ENTRY = 0;
    private static final int PARAM_0 = ARG_0;
    private static final int HEAPIN = BEFORE;
    private static final int RESULT = VALUE;
    private static final int HEAPOUT = AFTER;
    private static final int STOP = STOPS;

    /** A set of nodes has a word for each part of the instructions, and the last for the procedures. */
    private static final int WORDS = PARTS + 1;
    private static final int FIRST_OF_PROCEDURES = PARTS * MOST_INSTRUCTIONS;
    private static final int NODES = FIRST_OF_PROCEDURES + PARTS * MOST_PROCEDURES;

    private static final int CONTROL = 0;
    private static final int DATA = 1;
    private static final int HEAP = 2;
    private static final int HALT = 3;
    private static final int KINDS = 4;

    private static final int CAME_TO_EXIT = 0;
    private static final int HALTED = 1;
    private static final int TIRED = 2;
    private static final int UNDER_WAY = 3;
    /** Far above 600 steps with the most that can be passed over between two of them. */
    private static final int MOST_TURNS = 1000000;

    private final Code code;
    private final Dependences dependences;
    private final Walk walk;
    private final Machine machine;
    private final Order order;
    private final Flows flows;
    private final Slice current;
    private boolean built;

    public ProgramSlices() {
        code = new Code();
        dependences = new Dependences(code);
        walk = new Walk(code, dependences);
        machine = new Machine(code);
        order = new Order();
        flows = new Flows(code, order);
        current = new Slice();
        built = false;
    }

    public int add(int op, int d, int a, int b) {
        if (built || !code.hasRoom() || !code.isAllowed(op, d, a, b)) {
            return REFUSED;
        }
        return code.append(op, d, a, b);
    }

    public void clear() {
        code.wipe();
        current.drop();
        machine.forget();
        built = false;
    }

    public int build() {
        if (built) {
            return -2;
        }
        int wrong = code.layOut();
        if (wrong != NONE) {
            return -3 - wrong;
        }
        dependences.workOut();
        walk.summarise();
        flows.trace(walk);
        built = true;
        return 0;
    }

    public boolean levels(int n) {
        if (n < 1 || n > MOST_LEVELS) {
            return false;
        }
        order.reset(n);
        return true;
    }

    public boolean below(int a, int b) {
        if (!order.isLevel(a) || !order.isLevel(b)) {
            return false;
        }
        order.tell(a, b);
        return true;
    }

    public boolean label(boolean channel, int k, int level) {
        if (!isOneOfFour(k) || !order.isLevel(level)) {
            return false;
        }
        order.mark(channel, k, level);
        return true;
    }

    public int lattice() {
        return order.fault();
    }

    public int depends(int n, int m) {
        if (!built || !code.isNode(n) || !code.isNode(m)) {
            return 0;
        }
        return dependences.kindsBetween(n, m);
    }

    public boolean summary(int i, int to, int of) {
        if (!built || !code.isCall(i) || to < 0 || to > 2 || of < 0 || of > 2) {
            return false;
        }
        return dependences.isSummary(code.callee(i), VALUE + to, ARG_0 + of);
    }

    public int slice(int i, boolean forward) {
        if (!built || !code.isNode(i)) {
            return REFUSED;
        }
        walk.takeSlice(i, forward);
        current.take(i, forward, walk);
        machine.forget();
        return current.size();
    }

    public int fit() {
        if (!current.isBackward()) {
            return REFUSED;
        }
        current.makeFit(walk, code);
        machine.forget();
        return current.size();
    }

    public boolean sliced(int k) {
        return current.isTaken() && code.isThere(k) && hasBit(current.instructions(), k);
    }

    public boolean input(int k, int v) {
        if (!isOneOfFour(k)) {
            return false;
        }
        machine.setInput(k, v);
        return true;
    }

    public int run(boolean whole, int fuel) {
        if (!built || fuel < 0 || fuel > MOST_FUEL || (!whole && !current.isBackward())) {
            return REFUSED;
        }
        int watched = current.isTaken() ? current.criterion() : NONE;
        return machine.perform(whole ? -1 : current.instructions(), fuel, watched);
    }

    public int steps() {
        return machine.stepsDone();
    }

    public int seen(int k) {
        return current.isTaken() ? machine.log.valueSeen(k) : 0;
    }

    public int written(int channel, int k) {
        return isOneOfFour(channel) ? machine.log.valueWritten(channel, k) : 0;
    }

    public int check() {
        return canCheck() ? flows.count() : -1;
    }

    public int flow(int j) {
        return canCheck() ? flows.find(j) : -1;
    }

    private boolean canCheck() {
        return built && order.fault() == 0;
    }

    private static boolean isOneOfFour(int k) {
        return k >= 0 && k < FOUR;
    }

    private static boolean hasBit(int mask, int k) {
        return ((mask >>> k) & 1) != 0;
    }

    private static boolean hasPosition(long mask, int position) {
        return ((mask >>> position) & 1L) != 0L;
    }

    /** The node of an instruction's part; part 0 is the instruction itself. */
    private static int partOf(int instruction, int part) {
        return part * MOST_INSTRUCTIONS + instruction;
    }

    private static int sideOf(int procedure, int part) {
        return FIRST_OF_PROCEDURES + procedure * PARTS + part;
    }

    /** The instructions as they were added, and, once they are laid out, how they stand together. */
    private static final class Code {
        final int[] op = new int[MOST_INSTRUCTIONS];
        final int[] d = new int[MOST_INSTRUCTIONS];
        final int[] a = new int[MOST_INSTRUCTIONS];
        final int[] b = new int[MOST_INSTRUCTIONS];
        int count;
        /** The innermost IF or WHILE that is open around each; of an ELSE or END its own. */
        final int[] around = new int[MOST_INSTRUCTIONS];
        final int[] elseOf = new int[MOST_INSTRUCTIONS];
        final int[] endOf = new int[MOST_INSTRUCTIONS];
        final int[] home = new int[MOST_INSTRUCTIONS];
        final int[] first = new int[MOST_PROCEDURES];
        /** An EXIT has the number of the PROC behind it, or, of the last, that of all instructions. */
        final int[] exit = new int[MOST_PROCEDURES];
        int procedures;
        private final int[] open = new int[MOST_OPEN];
        private int depth;

        boolean hasRoom() {
            return count < MOST_INSTRUCTIONS;
        }

        boolean isAllowed(int newOp, int newD, int newA, int newB) {
            if (newOp < CONST || newOp > PROC) {
                return false;
            }
            return (!namesD(newOp) || isOneOfFour(newD))
                    && (!namesA(newOp) || isOneOfFour(newA))
                    && (!namesB(newOp) || isOneOfFour(newB));
        }

        private static boolean namesD(int op) {
            return op <= LOAD || isCallOp(op) || op == OUTPUT;
        }

        private static boolean namesA(int op) {
            return (op >= ADD && op <= IF) || op == WHILE || isCallOp(op) || op == OUTPUT;
        }

        private static boolean namesB(int op) {
            return (op >= ADD && op <= DIV) || op == STORE || isCallOp(op);
        }

        private static boolean isCallOp(int op) {
            return op >= FIRST_CALL && op <= LAST_CALL;
        }

        int append(int newOp, int newD, int newA, int newB) {
            op[count] = newOp;
            d[count] = newD;
            a[count] = newA;
            b[count] = newB;
            count++;
            return count - 1;
        }

        void wipe() {
            count = 0;
        }

        boolean isThere(int i) {
            return i >= 0 && i < count;
        }

        boolean isNode(int i) {
            return isThere(i) && op[i] != ELSE && op[i] != END && op[i] != PROC;
        }

        boolean isCall(int i) {
            return i >= 0 && i < count && op[i] >= FIRST_CALL && op[i] <= LAST_CALL;
        }

        int callee(int call) {
            return op[call] - FIRST_CALL;
        }

        boolean defines(int i) {
            return op[i] <= LOAD || isCallOp(op[i]);
        }

        /** Works out the structure: NONE, or the number of the first instruction that cannot stand. */
        int layOut() {
            depth = 0;
            procedures = 1;
            first[0] = 0;
            for (int i = 0; i < count; i++) {
                if (!place(i)) {
                    return i;
                }
            }
            if (depth > 0) {
                return count;
            }
            exit[procedures - 1] = count;
            return firstCallOfNothing();
        }

        private boolean place(int i) {
            home[i] = procedures - 1;
            around[i] = depth == 0 ? NONE : open[depth - 1];
            elseOf[i] = NONE;
            endOf[i] = NONE;
            switch (op[i]) {
                case IF:
                case WHILE:
                    return placeOpener(i);
                case ELSE:
                    return placeElse(i, around[i]);
                case END:
                    return placeEnd(i, around[i]);
                case PROC:
                    return placeProc(i);
                default:
                    return true;
            }
        }

        private boolean placeOpener(int i) {
            if (depth == MOST_OPEN) {
                return false;
            }
            open[depth] = i;
            depth++;
            return true;
        }

        private boolean placeElse(int i, int opener) {
            if (opener == NONE || op[opener] != IF || elseOf[opener] != NONE) {
                return false;
            }
            elseOf[opener] = i;
            return true;
        }

        private boolean placeEnd(int i, int opener) {
            if (opener == NONE) {
                return false;
            }
            endOf[opener] = i;
            depth--;
            return true;
        }

        private boolean placeProc(int i) {
            if (depth > 0 || procedures == MOST_PROCEDURES) {
                return false;
            }
            exit[procedures - 1] = i;
            first[procedures] = i + 1;
            procedures++;
            return true;
        }

        private int firstCallOfNothing() {
            for (int i = 0; i < count; i++) {
                if (isCall(i) && callee(i) >= procedures) {
                    return i;
                }
            }
            return NONE;
        }

        /** Where the run goes on behind an IF whose variable is 0. */
        int otherwise(int opener) {
            return elseOf[opener] == NONE ? endOf[opener] : elseOf[opener] + 1;
        }

        /** Where the run goes on behind an ELSE or END. */
        int behindMark(int i) {
            int opener = around[i];
            if (op[i] == ELSE) {
                return endOf[opener];
            }
            return op[opener] == WHILE ? opener : i + 1;
        }
    }

    /** The ways of the laid out program. A position is an instruction or an EXIT, by its number. */
    private static final class Ways {
        private final Code code;
        /** An EXIT that is a PROC's number keeps no way onward, so no way leaves its procedure. */
        private final long[] onward = new long[MOST_INSTRUCTIONS];
        private final long[] definitions = new long[FOUR];
        private final long[] reached = new long[MOST_INSTRUCTIONS];
        private final long[] carried = new long[MOST_INSTRUCTIONS];
        private final long[] begun = new long[MOST_PROCEDURES * 2];

        Ways(Code code) {
            this.code = code;
        }

        /** Whether position m is reached from instruction n. */
        boolean isReached(int n, int m) {
            return hasPosition(reached[n], m);
        }

        /** Whether the definition at n reaches position m. */
        boolean carries(int n, int m) {
            return hasPosition(carried[n], m);
        }

        /** Whether the value of the BEGINNING of x0 or x1 reaches position m. */
        boolean carriesBeginning(int procedure, int x, int m) {
            return hasPosition(begun[procedure * 2 + x], m);
        }

        void workOut() {
            Arrays.fill(definitions, 0L);
            for (int i = 0; i < code.count; i++) {
                onward[i] = stepsFrom(i);
                if (code.defines(i)) {
                    definitions[code.d[i]] |= 1L << i;
                }
            }
            for (int i = 0; i < code.count; i++) {
                reached[i] = flood(onward[i], 0L);
                carried[i] = code.defines(i) ? flood(onward[i], definitions[code.d[i]]) : 0L;
            }
            for (int p = 0; p < code.procedures; p++) {
                begun[p * 2] = flood(1L << code.first[p], definitions[0]);
                begun[p * 2 + 1] = flood(1L << code.first[p], definitions[1]);
            }
        }

        private long stepsFrom(int i) {
            long next = 1L << (i + 1);
            switch (code.op[i]) {
                case IF:
                    return next | (1L << code.otherwise(i));
                case WHILE:
                    return next | (1L << (code.endOf[i] + 1));
                case ELSE:
                case END:
                    return 1L << code.behindMark(i);
                case PROC:
                    return 0L;
                default:
                    return next;
            }
        }

        /** All positions to which ways lead from the given ones, where no way goes on from a stop. */
        private long flood(long begin, long stops) {
            long found = begin;
            boolean grown = true;
            for (int round = 0; round <= MOST_INSTRUCTIONS && grown; round++) {
                long before = found;
                for (int i = 0; i < code.count; i++) {
                    if (hasPosition(found & ~stops, i)) {
                        found |= onward[i];
                    }
                }
                grown = found != before;
            }
            return found;
        }
    }

    /** The dependences inside the procedures, and which CALLs join the procedures. */
    private static final class Dependences {
        private final Code code;
        private final Ways ways;
        /** For each node a row of words: the nodes that it depends on, and those that depend on it. */
        private final int[] onto = new int[NODES * WORDS];
        private final int[] from = new int[NODES * WORDS];
        /** For each kind and instruction the instructions that it depends on so. */
        private final int[] byKind = new int[KINDS * MOST_INSTRUCTIONS];
        private final int[] calls = new int[MOST_PROCEDURES];
        private final int[] summaries = new int[MOST_PROCEDURES];

        Dependences(Code code) {
            this.code = code;
            ways = new Ways(code);
        }

        int callsOf(int procedure) {
            return calls[procedure];
        }

        /** A word of the nodes that a node depends on, or (forward) that depend on it. */
        int neighbours(int node, int word, boolean forward) {
            return forward ? from[node * WORDS + word] : onto[node * WORDS + word];
        }

        int kindsBetween(int n, int m) {
            int sum = 0;
            for (int kind = 0; kind < KINDS; kind++) {
                if (hasBit(byKind[kind * MOST_INSTRUCTIONS + n], m)) {
                    sum += 1 << kind;
                }
            }
            return sum;
        }

        boolean isSummary(int procedure, int to, int of) {
            return hasBit(summaries[procedure], summaryBit(to, of));
        }

        private static int summaryBit(int to, int of) {
            return (to - VALUE) * 3 + of - ARG_0;
        }

        /** Gives all CALLs of the procedure the summary. */
        void putSummary(int procedure, int to, int of) {
            summaries[procedure] |= 1 << summaryBit(to, of);
            for (int i = 0; i < code.count; i++) {
                if (hasBit(calls[procedure], i)) {
                    join(partOf(i, to), partOf(i, of));
                }
            }
        }

        /** All dependences inside but the summaries, which need them all. */
        void workOut() {
            ways.workOut();
            Arrays.fill(onto, 0);
            Arrays.fill(from, 0);
            Arrays.fill(byKind, 0);
            Arrays.fill(calls, 0);
            Arrays.fill(summaries, 0);
            for (int i = 0; i < code.count; i++) {
                if (code.isNode(i)) {
                    joinControl(i);
                    joinData(i);
                    joinHeap(i);
                    joinHalt(i);
                }
            }
            for (int p = 0; p < code.procedures; p++) {
                joinEnds(p);
            }
        }

        private void join(int node, int other) {
            onto[node * WORDS + other / MOST_INSTRUCTIONS] |= 1 << (other % MOST_INSTRUCTIONS);
            from[other * WORDS + node / MOST_INSTRUCTIONS] |= 1 << (node % MOST_INSTRUCTIONS);
        }

        private void joinAs(int kind, int node, int other) {
            join(node, other);
            if (node < FIRST_OF_PROCEDURES && other < FIRST_OF_PROCEDURES) {
                int row = kind * MOST_INSTRUCTIONS + node % MOST_INSTRUCTIONS;
                byKind[row] |= 1 << (other % MOST_INSTRUCTIONS);
            }
        }

        private void joinControl(int i) {
            int opener = code.around[i];
            joinAs(CONTROL, i, opener == NONE ? sideOf(code.home[i], ENTRY) : opener);
            if (code.isCall(i)) {
                calls[code.callee(i)] |= 1 << i;
                for (int part = ARG_0; part < PARTS; part++) {
                    join(partOf(i, part), i);
                }
            }
        }

        private void joinData(int i) {
            int op = code.op[i];
            if (code.isCall(i)) {
                joinRead(partOf(i, ARG_0), i, code.a[i], code.home[i]);
                joinRead(partOf(i, ARG_1), i, code.b[i], code.home[i]);
                return;
            }
            if (op != CONST && op != INPUT) {
                joinRead(i, i, code.a[i], code.home[i]);
            }
            if ((op >= ADD && op <= DIV) || op == STORE) {
                joinRead(i, i, code.b[i], code.home[i]);
            }
        }

        /** What the node depends on since it reads x at the position. */
        private void joinRead(int node, int position, int x, int procedure) {
            for (int n = code.first[procedure]; n < code.exit[procedure]; n++) {
                if (code.defines(n) && code.d[n] == x && ways.carries(n, position)) {
                    joinAs(DATA, node, code.isCall(n) ? partOf(n, VALUE) : n);
                }
            }
            if (x < 2 && ways.carriesBeginning(procedure, x, position)) {
                joinAs(DATA, node, sideOf(procedure, PARAM_0 + x));
            }
        }

        private void joinHeap(int i) {
            if (code.op[i] != LOAD && !code.isCall(i)) {
                return;
            }
            int procedure = code.home[i];
            int node = code.isCall(i) ? partOf(i, BEFORE) : i;
            joinAs(HEAP, node, sideOf(procedure, HEAPIN));
            for (int n = code.first[procedure]; n < code.exit[procedure]; n++) {
                if (ways.isReached(n, i)) {
                    joinSource(HEAP, node, n, STORE, AFTER);
                }
            }
        }

        private void joinHalt(int i) {
            int procedure = code.home[i];
            for (int n = code.first[procedure]; n < code.exit[procedure]; n++) {
                if (ways.isReached(n, i)) {
                    joinSource(HALT, i, n, DIV, STOPS);
                }
            }
        }

        private void joinEnds(int procedure) {
            joinRead(sideOf(procedure, RESULT), code.exit[procedure], 0, procedure);
            for (int n = code.first[procedure]; n < code.exit[procedure]; n++) {
                joinSource(HEAP, sideOf(procedure, HEAPOUT), n, STORE, AFTER);
                joinSource(HALT, sideOf(procedure, STOP), n, DIV, STOPS);
            }
        }

        /** The node depends on n if that has the op, or on the part of n if that is a CALL. */
        private void joinSource(int kind, int node, int n, int op, int part) {
            if (code.op[n] == op) {
                joinAs(kind, node, n);
            } else if (code.isCall(n)) {
                joinAs(kind, node, partOf(n, part));
            }
        }
    }

    /** Follows dependences from a node; the set of nodes that it found stays until the next walk. */
    private static final class Walk {
        private static final int INSIDE = 0;
        private static final int OUT_TO_CALLS = 1;
        private static final int INTO_PROCEDURES = 2;

        private final Code code;
        private final Dependences dependences;
        private final int[] found = new int[WORDS];
        private final int[] queue = new int[NODES];
        private int filled;

        Walk(Code code, Dependences dependences) {
            this.code = code;
            this.dependences = dependences;
        }

        int word(int w) {
            return found[w];
        }

        /** Backward and forward, a slice first goes out to the callers and then into the called. */
        void takeSlice(int node, boolean forward) {
            begin(node);
            follow(OUT_TO_CALLS, forward);
            follow(INTO_PROCEDURES, forward);
        }

        /** Finds the summaries, of which each may be the cause of others, so until none is new. */
        void summarise() {
            boolean grown = true;
            for (int round = 0; round < NODES && grown; round++) {
                grown = false;
                for (int p = 0; p < code.procedures; p++) {
                    for (int to = RESULT; to <= STOP; to++) {
                        grown |= summariseEnd(p, to);
                    }
                }
            }
        }

        private boolean summariseEnd(int procedure, int to) {
            begin(sideOf(procedure, to));
            follow(INSIDE, false);
            boolean grown = false;
            for (int of = PARAM_0; of <= HEAPIN; of++) {
                boolean leads = hasBit(found[PARTS], procedure * PARTS + of);
                if (leads && !dependences.isSummary(procedure, to, of)) {
                    dependences.putSummary(procedure, to, of);
                    grown = true;
                }
            }
            return grown;
        }

        private void begin(int node) {
            Arrays.fill(found, 0);
            filled = 0;
            put(node);
        }

        private void put(int node) {
            int bit = 1 << (node % MOST_INSTRUCTIONS);
            if ((found[node / MOST_INSTRUCTIONS] & bit) == 0) {
                found[node / MOST_INSTRUCTIONS] |= bit;
                queue[filled] = node;
                filled++;
            }
        }

        private void putAll(int w, int nodes) {
            int fresh = nodes & ~found[w];
            for (int bit = 0; bit < MOST_INSTRUCTIONS && fresh != 0; bit++) {
                if (hasBit(fresh, bit)) {
                    put(w * MOST_INSTRUCTIONS + bit);
                }
            }
        }

        /** The queue holds all that was found before, so each walk goes on from all of it. */
        private void follow(int between, boolean forward) {
            for (int done = 0; done < NODES && done < filled; done++) {
                int node = queue[done];
                for (int w = 0; w < WORDS; w++) {
                    putAll(w, dependences.neighbours(node, w, forward));
                }
                if (between == OUT_TO_CALLS) {
                    putAll(partAt(node), callsBeyond(node, forward));
                } else if (between == INTO_PROCEDURES) {
                    putAll(PARTS, sideBeyond(node, forward));
                }
            }
        }

        /** The part of the CALL, or of the procedure, that the node is. */
        private static int partAt(int node) {
            return node < FIRST_OF_PROCEDURES ? node / MOST_INSTRUCTIONS : (node - FIRST_OF_PROCEDURES) % PARTS;
        }

        /** The CALLs to which a walk goes out from a procedure's node. */
        private int callsBeyond(int node, boolean forward) {
            if (node < FIRST_OF_PROCEDURES || isEnd(partAt(node)) != forward) {
                return 0;
            }
            return dependences.callsOf((node - FIRST_OF_PROCEDURES) / PARTS);
        }

        /** The bit, among the procedures' nodes, of the one into which a walk goes from a CALL's node. */
        private int sideBeyond(int node, boolean forward) {
            int instruction = node % MOST_INSTRUCTIONS;
            if (node >= FIRST_OF_PROCEDURES || !code.isCall(instruction) || isEnd(partAt(node)) == forward) {
                return 0;
            }
            return 1 << (code.callee(instruction) * PARTS + partAt(node));
        }

        /** Ends are joined by DOWN, the other parts by UP. */
        private static boolean isEnd(int part) {
            return part >= VALUE;
        }
    }

    /** The slice that was taken last, if any. */
    private static final class Slice {
        private final int[] words = new int[WORDS];
        private boolean taken;
        private boolean forward;
        private int instruction;

        void drop() {
            taken = false;
        }

        void take(int i, boolean isForward, Walk walk) {
            Arrays.fill(words, 0);
            join(walk);
            taken = true;
            forward = isForward;
            instruction = i;
        }

        boolean isTaken() {
            return taken;
        }

        boolean isBackward() {
            return taken && !forward;
        }

        int criterion() {
            return instruction;
        }

        int instructions() {
            return words[0];
        }

        int size() {
            return Integer.bitCount(words[0]);
        }

        /**
         * In the order of the CALLs' numbers: the document leaves it open, but a node that came in with
         * another's slice brings less along than its own slice would, so now and then it matters.
         */
        void makeFit(Walk walk, Code code) {
            boolean grown = true;
            for (int round = 0; round < NODES && grown; round++) {
                grown = false;
                for (int i = 0; i < code.count; i++) {
                    if (code.isCall(i)) {
                        grown |= fitCall(walk, i, code.callee(i));
                    }
                }
            }
        }

        private boolean fitCall(Walk walk, int call, int procedure) {
            boolean grown = false;
            for (int part = ARG_0; part <= BEFORE; part++) {
                if (lacks(call, procedure, part)) {
                    walk.takeSlice(partOf(call, part), false);
                    join(walk);
                    grown = true;
                }
            }
            return grown;
        }

        private boolean lacks(int call, int procedure, int part) {
            return hasBit(words[0], call) && hasBit(words[PARTS], procedure * PARTS + part)
                    && !hasBit(words[part], call);
        }

        private void join(Walk walk) {
            for (int w = 0; w < WORDS; w++) {
                words[w] |= walk.word(w);
            }
        }
    }

    /** What the latest run left: the values of the watched instruction and of the channels. */
    private static final class Log {
        private final int[] values = new int[MOST_SEEN];
        private int valueCount;
        private final int[] texts = new int[FOUR * MOST_WRITTEN];
        private final int[] textCounts = new int[FOUR];

        void empty() {
            valueCount = 0;
            Arrays.fill(textCounts, 0);
        }

        void noteValue(int value) {
            if (valueCount < MOST_SEEN) {
                values[valueCount] = value;
            }
            valueCount++;
        }

        void noteText(int channel, int value) {
            if (textCounts[channel] < MOST_WRITTEN) {
                texts[channel * MOST_WRITTEN + textCounts[channel]] = value;
            }
            textCounts[channel]++;
        }

        int valueSeen(int k) {
            if (k == -1) {
                return valueCount;
            }
            return k >= 0 && k < valueCount && k < MOST_SEEN ? values[k] : 0;
        }

        int valueWritten(int channel, int k) {
            int all = textCounts[channel];
            if (k == -1) {
                return all;
            }
            return k >= 0 && k < all && k < MOST_WRITTEN ? texts[channel * MOST_WRITTEN + k] : 0;
        }
    }

    /** Runs the program, or a part of it. */
    private static final class Machine {
        final Log log = new Log();
        private final Code code;
        private final int[] inputs = new int[FOUR];
        private final int[] heap = new int[FOUR];
        /** Four variables for each procedure that is under way. */
        private final int[] variables = new int[FOUR * MOST_UNDER_WAY];
        private final int[] procedure = new int[MOST_UNDER_WAY];
        /** For each procedure under way the CALL that began it. */
        private final int[] caller = new int[MOST_UNDER_WAY];
        private int depth;
        private int at;
        private int done;
        private int fuel;
        private int allowed;
        private int watched;
        private int outcome;
        private boolean ran;

        Machine(Code code) {
            this.code = code;
        }

        void setInput(int k, int v) {
            inputs[k] = v;
        }

        void forget() {
            ran = false;
            log.empty();
        }

        int stepsDone() {
            return ran ? done : -1;
        }

        /** Does the instructions of the mask alone; the watched one's values are noted. */
        int perform(int instructions, int mostSteps, int watchedInstruction) {
            log.empty();
            Arrays.fill(heap, 0);
            allowed = instructions;
            fuel = mostSteps;
            watched = watchedInstruction;
            ran = true;
            done = 0;
            outcome = UNDER_WAY;
            depth = NONE;
            enter(0, NONE, 0, 0);
            for (int turn = 0; turn < MOST_TURNS && outcome == UNDER_WAY; turn++) {
                takeTurn();
            }
            return outcome;
        }

        private void takeTurn() {
            if (at == code.exit[procedure[depth]]) {
                leave();
            } else if (!code.isNode(at)) {
                at = code.behindMark(at);
            } else if (!hasBit(allowed, at)) {
                at = isBranch(at) ? code.endOf[at] + 1 : at + 1;
            } else if (done == fuel) {
                outcome = TIRED;
            } else {
                done++;
                take(at);
            }
        }

        private boolean isBranch(int i) {
            return code.op[i] == IF || code.op[i] == WHILE;
        }

        private void take(int i) {
            if (code.isCall(i)) {
                takeCall(i);
            } else if (isBranch(i)) {
                takeBranch(i);
            } else if (code.op[i] == STORE) {
                heap[variable(code.a[i]) & 3] = variable(code.b[i]);
                note(i, variable(code.b[i]));
                at++;
            } else if (code.op[i] == OUTPUT) {
                log.noteText(code.d[i], variable(code.a[i]));
                note(i, variable(code.a[i]));
                at++;
            } else if (code.op[i] == DIV && variable(code.b[i]) == 0) {
                outcome = HALTED;
            } else {
                int value = newValue(i);
                setVariable(code.d[i], value);
                note(i, value);
                at++;
            }
        }

        private void takeCall(int i) {
            if (depth + 1 == MOST_UNDER_WAY) {
                outcome = TIRED;
            } else {
                enter(code.callee(i), i, variable(code.a[i]), variable(code.b[i]));
            }
        }

        private void takeBranch(int i) {
            int value = variable(code.a[i]);
            note(i, value);
            if (value != 0) {
                at++;
            } else {
                at = code.op[i] == IF ? code.otherwise(i) : code.endOf[i] + 1;
            }
        }

        private int newValue(int i) {
            switch (code.op[i]) {
                case ADD:
                    return variable(code.a[i]) + variable(code.b[i]);
                case SUB:
                    return variable(code.a[i]) - variable(code.b[i]);
                case MUL:
                    return variable(code.a[i]) * variable(code.b[i]);
                case LESS:
                    return variable(code.a[i]) < variable(code.b[i]) ? 1 : 0;
                case DIV:
                    return quotient(variable(code.a[i]), variable(code.b[i]));
                case INPUT:
                    return inputs[code.a[i]];
                case LOAD:
                    return heap[variable(code.a[i]) & 3];
                default:
                    return code.a[i];
            }
        }

        private static int quotient(int dividend, int divisor) {
            return divisor == 0 ? 0 : dividend / divisor;
        }

        private void enter(int called, int call, int x0, int x1) {
            depth++;
            procedure[depth] = called;
            caller[depth] = call;
            setVariable(0, x0);
            setVariable(1, x1);
            setVariable(2, 0);
            setVariable(3, 0);
            at = code.first[called];
        }

        private void leave() {
            if (depth == 0) {
                outcome = CAME_TO_EXIT;
                return;
            }
            int result = variable(0);
            int call = caller[depth];
            depth--;
            setVariable(code.d[call], result);
            at = call + 1;
        }

        private int variable(int x) {
            return variables[depth * FOUR + x];
        }

        private void setVariable(int x, int value) {
            variables[depth * FOUR + x] = value;
        }

        private void note(int i, int value) {
            if (i == watched) {
                log.noteValue(value);
            }
        }
    }

    /** The levels with their order, and the levels of the inputs and channels. */
    private static final class Order {
        private int count;
        /** For each level the levels that it is below, through others too. */
        private final int[] above = new int[MOST_LEVELS];
        private final int[] ofInput = new int[FOUR];
        private final int[] ofChannel = new int[FOUR];

        Order() {
            count = 1;
            above[0] = 1;
        }

        void reset(int n) {
            count = n;
            for (int i = 0; i < n; i++) {
                above[i] = 1 << i;
            }
            Arrays.fill(ofInput, 0);
            Arrays.fill(ofChannel, 0);
        }

        boolean isLevel(int level) {
            return level >= 0 && level < count;
        }

        void tell(int a, int b) {
            for (int i = 0; i < count; i++) {
                if (isBelow(i, a)) {
                    above[i] |= above[b];
                }
            }
        }

        boolean isBelow(int a, int b) {
            return hasBit(above[a], b);
        }

        void mark(boolean channel, int k, int level) {
            if (channel) {
                ofChannel[k] = level;
            } else {
                ofInput[k] = level;
            }
        }

        int levelOfInput(int k) {
            return ofInput[k];
        }

        int levelOfChannel(int k) {
            return ofChannel[k];
        }

        /** 0 for a lattice, else the number of the first thing that it lacks. */
        int fault() {
            if (hasCircle()) {
                return 1;
            }
            if (!allJoin()) {
                return 2;
            }
            return bottom() == NONE ? 3 : 0;
        }

        private boolean hasCircle() {
            for (int a = 0; a < count; a++) {
                for (int b = 0; b < a; b++) {
                    if (isBelow(a, b) && isBelow(b, a)) {
                        return true;
                    }
                }
            }
            return false;
        }

        private boolean allJoin() {
            for (int a = 0; a < count; a++) {
                for (int b = 0; b < a; b++) {
                    if (!hasLeast(above[a] & above[b])) {
                        return false;
                    }
                }
            }
            return true;
        }

        private boolean hasLeast(int levels) {
            for (int i = 0; i < count; i++) {
                if (hasBit(levels, i) && (levels & ~above[i]) == 0) {
                    return true;
                }
            }
            return false;
        }

        int bottom() {
            int all = (1 << count) - 1;
            for (int i = 0; i < count; i++) {
                if (above[i] == all) {
                    return i;
                }
            }
            return NONE;
        }
    }

    /** Which INPUTs the sinks can know, and which of these are FLOWs by the order. */
    private static final class Flows {
        private final Code code;
        private final Order order;
        /** For each sink the instructions of its backward slice. */
        private final int[] sources = new int[MOST_INSTRUCTIONS];

        Flows(Code code, Order order) {
            this.code = code;
            this.order = order;
        }

        /** Taken once for a built program, since labels and order do not change the slices. */
        void trace(Walk walk) {
            for (int i = 0; i < code.count; i++) {
                if (isSink(i)) {
                    walk.takeSlice(i, false);
                    sources[i] = walk.word(0);
                }
            }
        }

        private boolean isSink(int i) {
            return code.op[i] == OUTPUT || code.op[i] == DIV;
        }

        int count() {
            int sum = 0;
            for (int sink = 0; sink < code.count; sink++) {
                sum += Integer.bitCount(inputsInto(sink));
            }
            return sum;
        }

        /** The flow with the number, or -1. */
        int find(int number) {
            int before = 0;
            for (int sink = 0; sink < code.count; sink++) {
                int inputs = inputsInto(sink);
                for (int i = 0; i < code.count; i++) {
                    if (hasBit(inputs, i)) {
                        if (before == number) {
                            return i * 32 + sink;
                        }
                        before++;
                    }
                }
            }
            return -1;
        }

        /** The INPUTs that flow to the instruction; none if it is no sink. */
        private int inputsInto(int sink) {
            if (!isSink(sink)) {
                return 0;
            }
            int level = code.op[sink] == DIV ? order.bottom() : order.levelOfChannel(code.d[sink]);
            int inputs = 0;
            for (int i = 0; i < code.count; i++) {
                if (code.op[i] == INPUT && hasBit(sources[sink], i)
                        && !order.isBelow(order.levelOfInput(code.a[i]), level)) {
                    inputs |= 1 << i;
                }
            }
            return inputs;
        }
    }
}
