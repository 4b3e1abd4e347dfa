/** Promises 1 to 4: a new object, add, clear, build. */
public final class BuildTest {
    private static final int[] VALUES = {Integer.MIN_VALUE, -1, 0, 3, 4, Integer.MAX_VALUE};

    public static void main(String[] args) {
        newObject();
        addNumbers();
        addOperands();
        addOps();
        addAfterBuild();
        clearTakesAway();
        clearKeeps();
        buildElse();
        buildEnd();
        buildProc();
        buildDepth();
        buildOrder();
        buildRefusedGoesOn();
        Expect.finish();
    }

    private static void newObject() {
        ProgramSlices desk = new ProgramSlices();
        Expect.same("new lattice()", desk.lattice(), 0);
        Expect.same("new below(0, 1)", desk.below(0, 1), false);
        Expect.same("new label to level 1", desk.label(true, 0, 1), false);
        Expect.same("new steps()", desk.steps(), -1);
        Expect.same("new seen(-1)", desk.seen(-1), 0);
        Expect.same("new written(0, -1)", desk.written(0, -1), 0);
        Expect.same("new sliced(0)", desk.sliced(0), false);
        Expect.same("new slice(0)", desk.slice(0, false), -1);
        Expect.same("new fit()", desk.fit(), -1);
        Expect.same("new run", desk.run(true, 5), -1);
        Expect.same("new check()", desk.check(), -1);
        Expect.same("new flow(0)", desk.flow(0), -1);
        Expect.same("new depends(0, 0)", desk.depends(0, 0), 0);
        Expect.same("new summary(0, 0, 0)", desk.summary(0, 0, 0), false);
        for (int k = 0; k < 4; k++) {
            Expect.same("add number", desk.add(Ops.INPUT, k, k, 0), 2 * k);
            Expect.same("add number", desk.add(Ops.OUTPUT, k, k, 0), 2 * k + 1);
        }
        Expect.same("build()", desk.build(), 0);
        Expect.same("run", desk.run(true, 8), 0);
        for (int k = 0; k < 4; k++) {
            Expect.same("written", desk.written(k, -1), 1);
            Expect.same("input is 0", desk.written(k, 0), 0);
        }
        Expect.same("check() of one level", desk.check(), 0);
        Expect.same("empty program", new ProgramSlices().build(), 0);
    }

    private static void addNumbers() {
        ProgramSlices desk = new ProgramSlices();
        for (int i = 0; i < 32; i++) {
            Expect.same("add number", desk.add(Ops.CONST, 0, i, 0), i);
        }
        Expect.same("33rd add", desk.add(Ops.CONST, 0, 0, 0), -1);
        Expect.same("33rd add again", desk.add(Ops.END, 0, 0, 0), -1);
        Expect.same("build of 32", desk.build(), 0);
        Expect.same("run of 32", desk.run(true, 32), 0);
        Expect.same("steps of 32", desk.steps(), 32);
    }

    private static void addOperands() {
        for (int op = 0; op <= 18; op++) {
            for (int value : VALUES) {
                boolean good = value == 0 || value == 3;
                tryAdd(op, value, 1, 1, good || !namesD(op));
                tryAdd(op, 1, value, 1, good || !namesA(op));
                tryAdd(op, 1, 1, value, good || !namesB(op));
            }
        }
    }

    private static boolean namesD(int op) {
        return "1111111100000111110".charAt(op) == '1';
    }

    private static boolean namesA(int op) {
        return "0111111111010111110".charAt(op) == '1';
    }

    private static boolean namesB(int op) {
        return "0111110010000111100".charAt(op) == '1';
    }

    private static void tryAdd(int op, int d, int a, int b, boolean good) {
        ProgramSlices desk = new ProgramSlices();
        String call = "add(" + op + ", " + d + ", " + a + ", " + b + ")";
        Expect.same(call, desk.add(op, d, a, b), good ? 0 : -1);
        Expect.same("add behind " + call, desk.add(Ops.CONST, 0, 0, 0), good ? 1 : 0);
    }

    private static void addOps() {
        for (int op : new int[] {Integer.MIN_VALUE, -1, 19, 20, Integer.MAX_VALUE}) {
            tryAdd(op, 0, 0, 0, false);
        }
    }

    private static void addAfterBuild() {
        ProgramSlices desk = Ops.built(Ops.CONST, 0, 7, 0);
        Expect.same("add when built", desk.add(Ops.CONST, 0, 0, 0), -1);
        Expect.same("run", desk.run(true, 600), 0);
        Expect.same("steps", desk.steps(), 1);
    }

    private static void clearTakesAway() {
        ProgramSlices desk = Ops.built(Ops.CONST, 1, 7, 0, Ops.OUTPUT, 0, 1, 0);
        desk.slice(1, false);
        desk.run(true, 9);
        Expect.same("seen before clear", desk.seen(0), 7);
        desk.clear();
        Expect.same("steps after clear", desk.steps(), -1);
        Expect.same("seen(-1) after clear", desk.seen(-1), 0);
        Expect.same("seen(0) after clear", desk.seen(0), 0);
        Expect.same("written(0, -1) after clear", desk.written(0, -1), 0);
        Expect.same("written(0, 0) after clear", desk.written(0, 0), 0);
        Expect.same("sliced after clear", desk.sliced(1), false);
        Expect.same("fit after clear", desk.fit(), -1);
        Expect.same("run after clear", desk.run(true, 9), -1);
        Expect.same("slice after clear", desk.slice(0, false), -1);
        Expect.same("depends after clear", desk.depends(1, 0), 0);
        Expect.same("check after clear", desk.check(), -1);
        Expect.same("flow after clear", desk.flow(0), -1);
        Expect.same("add after clear", desk.add(Ops.CONST, 0, 0, 0), 0);
        Expect.same("depends not built", desk.depends(0, 0), 0);
        Expect.same("build after clear", desk.build(), 0);
        Expect.same("old slice is gone", desk.sliced(0), false);
        Expect.same("run of the slice that is gone", desk.run(false, 9), -1);
        Expect.same("run after build", desk.run(true, 9), 0);
        Expect.same("steps after build", desk.steps(), 1);
        Expect.same("nothing of the old program", desk.depends(1, 0), 0);
    }

    private static void clearKeeps() {
        ProgramSlices desk = new ProgramSlices();
        desk.input(2, 41);
        desk.levels(3);
        desk.below(0, 1);
        desk.below(1, 2);
        desk.label(false, 2, 2);
        desk.label(true, 1, 1);
        desk.clear();
        Ops.fill(desk, Ops.INPUT, 0, 2, 0, Ops.OUTPUT, 1, 0, 0);
        Expect.same("build", desk.build(), 0);
        Expect.same("check by the labels before", desk.check(), 1);
        desk.label(true, 1, 2);
        Expect.same("check by the levels before", desk.check(), 0);
        desk.run(true, 9);
        Expect.same("input before", desk.written(1, 0), 41);
    }

    private static void build(String what, int want, int... ops) {
        ProgramSlices desk = new ProgramSlices();
        for (int op : ops) {
            desk.add(op, 0, 0, 0);
        }
        Expect.same("build of " + what, desk.build(), want);
        Expect.same("build again of " + what, desk.build(), want == 0 ? -2 : want);
    }

    private static void buildElse() {
        build("ELSE while nothing is open", -3, Ops.ELSE);
        build("ELSE behind an END", -5, Ops.IF, Ops.END, Ops.ELSE);
        build("ELSE of a WHILE", -4, Ops.WHILE, Ops.ELSE, Ops.END);
        build("ELSE in a WHILE in an IF", -5, Ops.IF, Ops.WHILE, Ops.ELSE, Ops.END, Ops.END);
        build("second ELSE", -5, Ops.IF, Ops.ELSE, Ops.ELSE, Ops.END);
        build("two IFs with an ELSE each", 0, Ops.IF, Ops.IF, Ops.ELSE, Ops.END, Ops.ELSE, Ops.END);
        build("an IF in an ELSE", 0, Ops.IF, Ops.ELSE, Ops.IF, Ops.ELSE, Ops.END, Ops.END);
        build("ELSE after an inner END", 0, Ops.IF, Ops.WHILE, Ops.END, Ops.ELSE, Ops.END);
    }

    private static void buildEnd() {
        build("END while nothing is open", -3, Ops.END);
        build("one END too many", -5, Ops.IF, Ops.END, Ops.END);
        build("open at the end", -4, Ops.IF);
        build("open WHILE at the end", -6, Ops.WHILE, Ops.IF, Ops.END);
    }

    private static void buildProc() {
        build("PROC in an IF", -4, Ops.IF, Ops.PROC, Ops.END);
        build("PROC in a WHILE", -5, Ops.CONST, Ops.WHILE, Ops.PROC);
        build("four procedures", 0, Ops.PROC, Ops.PROC, Ops.PROC);
        build("five procedures", -6, Ops.PROC, Ops.PROC, Ops.PROC, Ops.PROC);
        build("CALL of 0", 0, Ops.CALL_0);
        build("CALL of 1 that is not there", -3, Ops.CALL_1);
        build("CALL of 1 that comes later", 0, Ops.CALL_1, Ops.PROC);
        build("first CALL that is not there", -6, Ops.CALL_1, Ops.PROC, Ops.CALL_0, Ops.CALL_2, Ops.CALL_3);
        build("CALL of 3", 0, Ops.PROC, Ops.PROC, Ops.PROC, Ops.CALL_3);
        build("CALL of 3 of three", -5, Ops.PROC, Ops.PROC, Ops.CALL_3);
    }

    private static void buildDepth() {
        build("four open", 0, Ops.IF, Ops.WHILE, Ops.IF, Ops.WHILE, Ops.END, Ops.END, Ops.END, Ops.END);
        build("a fifth IF", -7, Ops.WHILE, Ops.WHILE, Ops.WHILE, Ops.WHILE, Ops.IF);
        build("a fifth WHILE", -7, Ops.IF, Ops.IF, Ops.IF, Ops.IF, Ops.WHILE);
        build("four open twice", 0, Ops.IF, Ops.IF, Ops.IF, Ops.IF, Ops.END, Ops.WHILE, Ops.END, Ops.END,
                Ops.END, Ops.END);
    }

    private static void buildOrder() {
        build("a CALL of nothing and later an ELSE", -4, Ops.CALL_3, Ops.ELSE);
        build("a CALL of nothing and an open IF", -5, Ops.CALL_3, Ops.IF);
        build("two wrong ones", -4, Ops.CONST, Ops.END, Ops.ELSE);
    }

    private static void buildRefusedGoesOn() {
        ProgramSlices desk = new ProgramSlices();
        Ops.fill(desk, Ops.CALL_1, 0, 0, 0);
        Expect.same("build without procedure 1", desk.build(), -3);
        Expect.same("run of what is not built", desk.run(true, 9), -1);
        Expect.same("slice of what is not built", desk.slice(0, true), -1);
        Expect.same("summary of what is not built", desk.summary(0, 0, 0), false);
        Expect.same("check of what is not built", desk.check(), -1);
        Expect.same("add after a refused build", desk.add(Ops.PROC, 0, 0, 0), 1);
        Expect.same("build then", desk.build(), 0);
        Expect.same("build again", desk.build(), -2);
        Expect.same("run then", desk.run(true, 9), 0);
        Expect.same("build changes no run", desk.build(), -2);
        Expect.same("steps then", desk.steps(), 1);
    }
}
