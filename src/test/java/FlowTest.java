/** Promises 19 and 20: check, flow. */
public final class FlowTest {
    public static void main(String[] args) {
        directFlows();
        hiddenFlows();
        bottomNeedNotBeZero();
        throughProcedures();
        diamond();
        sinkAtTheBeginning();
        numbers();
        whenThereAreNone();
        changesNothing();
        Expect.finish();
    }

    private static void twoLevels(ProgramSlices desk) {
        desk.levels(2);
        desk.below(0, 1);
    }

    /** The flows as pairs: INPUT, sink. */
    private static void flows(ProgramSlices desk, int... pairs) {
        Expect.same("check()", desk.check(), pairs.length / 2);
        for (int j = 0; j < pairs.length / 2; j++) {
            Expect.same("flow(" + j + ")", desk.flow(j), 32 * pairs[2 * j] + pairs[2 * j + 1]);
        }
        for (int none : new int[] {Integer.MIN_VALUE, -2, -1, pairs.length / 2, 300, Integer.MAX_VALUE}) {
            Expect.same("flow(" + none + ")", desk.flow(none), -1);
        }
    }

    private static void directFlows() {
        ProgramSlices desk = Ops.built(
                Ops.INPUT, 0, 0, 0,
                Ops.INPUT, 1, 1, 0,
                Ops.OUTPUT, 0, 0, 0,
                Ops.OUTPUT, 1, 1, 0);
        flows(desk);
        twoLevels(desk);
        flows(desk);
        desk.label(false, 1, 1);
        flows(desk, 1, 3);
        desk.label(false, 0, 1);
        flows(desk, 0, 2, 1, 3);
        desk.label(true, 1, 1);
        flows(desk, 0, 2);
        desk.label(false, 0, 0);
        flows(desk);
        desk.label(true, 0, 1);
        flows(desk);
    }

    private static void hiddenFlows() {
        ProgramSlices desk = Ops.built(
                Ops.INPUT, 0, 0, 0,
                Ops.INPUT, 1, 1, 0,
                Ops.IF, 0, 0, 0,
                Ops.CONST, 2, 1, 0,
                Ops.END, 0, 0, 0,
                Ops.OUTPUT, 0, 2, 0,
                Ops.STORE, 0, 3, 1,
                Ops.LOAD, 3, 2, 0,
                Ops.OUTPUT, 1, 3, 0,
                Ops.OUTPUT, 2, 1, 0);
        twoLevels(desk);
        desk.label(false, 0, 1);
        flows(desk, 0, 5, 0, 8);
        desk.label(false, 1, 1);
        flows(desk, 0, 5, 0, 8, 1, 8, 1, 9);
        ProgramSlices div = Ops.built(
                Ops.INPUT, 0, 0, 0,
                Ops.CONST, 1, 1, 0,
                Ops.OUTPUT, 0, 1, 0,
                Ops.DIV, 2, 1, 0,
                Ops.OUTPUT, 1, 1, 0,
                Ops.OUTPUT, 2, 1, 0);
        twoLevels(div);
        div.label(false, 0, 1);
        div.label(true, 1, 1);
        flows(div, 0, 3, 0, 5);
    }

    private static void bottomNeedNotBeZero() {
        ProgramSlices desk = Ops.built(Ops.INPUT, 0, 0, 0, Ops.DIV, 1, 0, 0, Ops.OUTPUT, 0, 0, 0);
        desk.levels(2);
        desk.below(1, 0);
        flows(desk, 0, 1);
        desk.label(false, 0, 1);
        flows(desk);
        desk.label(true, 0, 1);
        flows(desk);
        desk.label(false, 0, 0);
        flows(desk, 0, 1, 0, 2);
    }

    private static void throughProcedures() {
        ProgramSlices desk = Ops.built(
                Ops.INPUT, 0, 0, 0,
                Ops.INPUT, 1, 1, 0,
                Ops.CALL_1, 2, 0, 0,
                Ops.CALL_1, 3, 1, 1,
                Ops.OUTPUT, 0, 2, 0,
                Ops.OUTPUT, 1, 3, 0,
                Ops.PROC, 0, 0, 0,
                Ops.ADD, 0, 0, 0,
                Ops.OUTPUT, 2, 0, 0,
                Ops.INPUT, 1, 2, 0);
        twoLevels(desk);
        for (int k = 0; k < 3; k++) {
            desk.label(false, k, 1);
        }
        flows(desk, 0, 4, 1, 5, 0, 8, 1, 8);
        desk.label(true, 2, 1);
        flows(desk, 0, 4, 1, 5);
    }

    private static void diamond() {
        ProgramSlices desk = Ops.built(
                Ops.INPUT, 0, 0, 0,
                Ops.INPUT, 1, 1, 0,
                Ops.ADD, 2, 0, 1,
                Ops.OUTPUT, 0, 2, 0,
                Ops.OUTPUT, 1, 2, 0,
                Ops.OUTPUT, 2, 2, 0,
                Ops.OUTPUT, 3, 0, 0);
        desk.levels(4);
        desk.below(0, 1);
        desk.below(0, 2);
        desk.below(1, 3);
        desk.below(2, 3);
        desk.label(false, 0, 1);
        desk.label(false, 1, 2);
        desk.label(true, 0, 1);
        desk.label(true, 1, 2);
        desk.label(true, 2, 3);
        desk.label(true, 3, 2);
        flows(desk, 1, 3, 0, 4, 0, 6);
    }

    private static void sinkAtTheBeginning() {
        ProgramSlices desk = Ops.built(
                Ops.OUTPUT, 0, 0, 0,
                Ops.INPUT, 0, 0, 0,
                Ops.IF, 0, 2, 0,
                Ops.CALL_0, 1, 0, 0,
                Ops.END, 0, 0, 0);
        twoLevels(desk);
        desk.label(false, 0, 1);
        flows(desk, 1, 0);
        ProgramSlices input = Ops.built(Ops.INPUT, 0, 0, 0, Ops.INPUT, 1, 0, 0, Ops.OUTPUT, 0, 0, 0);
        twoLevels(input);
        input.label(false, 0, 1);
        flows(input, 0, 2);
    }

    private static void numbers() {
        ProgramSlices desk = new ProgramSlices();
        int[] due = new int[2 * 16 * 16];
        for (int k = 0; k < 4; k++) {
            desk.label(false, k, 0);
        }
        for (int i = 0; i < 15; i++) {
            desk.add(Ops.INPUT, 1, i & 3, 0);
            desk.add(Ops.ADD, 0, 0, 1);
        }
        desk.add(Ops.OUTPUT, 0, 0, 0);
        desk.add(Ops.OUTPUT, 3, 0, 0);
        Expect.same("build()", desk.build(), 0);
        twoLevels(desk);
        for (int k = 0; k < 4; k++) {
            desk.label(false, k, 1);
        }
        for (int i = 0; i < 15; i++) {
            due[2 * i] = 2 * i;
            due[2 * i + 1] = 30;
            due[30 + 2 * i] = 2 * i;
            due[30 + 2 * i + 1] = 31;
        }
        flows(desk, java.util.Arrays.copyOf(due, 60));
    }

    private static void whenThereAreNone() {
        ProgramSlices desk = new ProgramSlices();
        Ops.fill(desk, Ops.INPUT, 0, 0, 0, Ops.OUTPUT, 0, 0, 0);
        twoLevels(desk);
        desk.label(false, 0, 1);
        Expect.same("check() when not built", desk.check(), -1);
        Expect.same("flow(0) when not built", desk.flow(0), -1);
        desk.build();
        flows(desk, 0, 1);
        desk.below(1, 0);
        Expect.same("check() of no lattice 1", desk.check(), -1);
        Expect.same("flow(0) of no lattice 1", desk.flow(0), -1);
        desk.levels(2);
        Expect.same("check() of no lattice 2", desk.check(), -1);
        Expect.same("flow(0) of no lattice 2", desk.flow(0), -1);
        desk.levels(3);
        desk.below(1, 0);
        desk.below(2, 0);
        Expect.same("check() of no lattice 3", desk.check(), -1);
        Expect.same("flow(0) of no lattice 3", desk.flow(0), -1);
        flows(Ops.built());
    }

    private static void changesNothing() {
        ProgramSlices desk = Ops.built(
                Ops.INPUT, 0, 0, 0, Ops.CONST, 1, 3, 0, Ops.OUTPUT, 0, 0, 0, Ops.OUTPUT, 1, 1, 0);
        twoLevels(desk);
        desk.label(false, 0, 1);
        desk.slice(3, false);
        desk.run(false, 9);
        flows(desk, 0, 2);
        Expect.same("the slice stays", Ops.mask(desk), Ops.of(1, 3));
        Expect.same("the run stays", desk.steps(), 2);
        Expect.same("its value stays", desk.seen(0), 3);
        desk.clear();
        Ops.fill(desk, Ops.CONST, 1, 3, 0, Ops.INPUT, 0, 0, 0, Ops.OUTPUT, 0, 1, 0);
        desk.build();
        flows(desk);
    }
}
