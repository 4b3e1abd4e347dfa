/** Promises 11 to 13: slice, fit, sliced. */
public final class SliceTest {
    public static void main(String[] args) {
        insideOneProcedure();
        backwardKeepsCallsApart();
        forwardKeepsCallsApart();
        upAndDown();
        heapAndHalt();
        fitAdds();
        fitInRounds();
        callAtTheBeginning();
        procedureZeroAgain();
        builtAnew();
        fitHeap();
        whatEndsARun();
        refusedKeeps();
        slicedEdges();
        Expect.finish();
    }

    private static void slice(ProgramSlices desk, int i, boolean forward, int... due) {
        String call = "slice(" + i + ", " + forward + ")";
        Expect.same(call, desk.slice(i, forward), due.length);
        Expect.same("instructions of " + call, Ops.mask(desk), Ops.of(due));
    }

    private static void fit(ProgramSlices desk, int... due) {
        Expect.same("fit()", desk.fit(), due.length);
        Expect.same("instructions of fit()", Ops.mask(desk), Ops.of(due));
    }

    private static void insideOneProcedure() {
        ProgramSlices desk = Ops.built(
                Ops.INPUT, 0, 0, 0,
                Ops.CONST, 1, 1, 0,
                Ops.CONST, 2, 0, 0,
                Ops.WHILE, 0, 0, 0,
                Ops.ADD, 2, 2, 0,
                Ops.IF, 0, 2, 0,
                Ops.CONST, 3, 4, 0,
                Ops.ELSE, 0, 0, 0,
                Ops.CONST, 3, 5, 0,
                Ops.END, 0, 0, 0,
                Ops.SUB, 0, 0, 1,
                Ops.END, 0, 0, 0,
                Ops.OUTPUT, 0, 2, 0,
                Ops.OUTPUT, 1, 3, 0);
        slice(desk, 12, false, 0, 1, 2, 3, 4, 10, 12);
        slice(desk, 13, false, 0, 1, 2, 3, 4, 5, 6, 8, 10, 13);
        slice(desk, 3, false, 0, 1, 3, 10);
        slice(desk, 6, false, 0, 1, 2, 3, 4, 5, 6, 10);
        slice(desk, 1, false, 1);
        slice(desk, 2, true, 2, 4, 5, 6, 8, 12, 13);
        slice(desk, 6, true, 6, 13);
        slice(desk, 12, true, 12);
        slice(desk, 1, true, 1, 3, 4, 5, 6, 8, 10, 12, 13);
    }

    private static ProgramSlices twoCalls() {
        return Ops.built(
                Ops.INPUT, 0, 0, 0,
                Ops.INPUT, 1, 1, 0,
                Ops.CALL_1, 2, 0, 0,
                Ops.CALL_1, 3, 1, 1,
                Ops.OUTPUT, 0, 2, 0,
                Ops.OUTPUT, 1, 3, 0,
                Ops.PROC, 0, 0, 0,
                Ops.MUL, 0, 0, 1);
    }

    private static void backwardKeepsCallsApart() {
        ProgramSlices desk = twoCalls();
        slice(desk, 4, false, 0, 2, 3, 4, 7);
        slice(desk, 5, false, 1, 2, 3, 5, 7);
        slice(desk, 7, false, 0, 1, 2, 3, 7);
        slice(desk, 2, false, 2);
        slice(desk, 3, false, 2, 3);
    }

    private static void forwardKeepsCallsApart() {
        ProgramSlices desk = twoCalls();
        slice(desk, 0, true, 0, 4, 7);
        slice(desk, 1, true, 1, 5, 7);
        slice(desk, 7, true, 4, 5, 7);
        slice(desk, 2, true, 2, 3, 4, 5, 7);
        slice(desk, 3, true, 3, 4, 5, 7);
    }

    /** A slice goes UP before it goes DOWN, and never UP again. */
    private static void upAndDown() {
        ProgramSlices desk = Ops.built(
                Ops.INPUT, 0, 0, 0,
                Ops.CALL_1, 1, 0, 0,
                Ops.CONST, 2, 6, 0,
                Ops.CALL_2, 3, 2, 2,
                Ops.PROC, 0, 0, 0,
                Ops.CALL_2, 1, 0, 0,
                Ops.ADD, 0, 0, 1,
                Ops.PROC, 0, 0, 0,
                Ops.MUL, 0, 0, 1,
                Ops.OUTPUT, 0, 2, 0);
        slice(desk, 6, false, 0, 1, 5, 6, 8);
        slice(desk, 8, false, 0, 1, 2, 3, 5, 8);
        slice(desk, 9, false, 1, 3, 5, 9);
        slice(desk, 2, true, 2, 8);
        slice(desk, 8, true, 6, 8);
        slice(desk, 1, true, 1, 2, 3, 5, 6, 8, 9);
        slice(desk, 5, true, 2, 3, 5, 6, 8, 9);
    }

    private static void heapAndHalt() {
        ProgramSlices desk = Ops.built(
                Ops.INPUT, 0, 0, 0,
                Ops.INPUT, 1, 1, 0,
                Ops.CALL_1, 3, 0, 1,
                Ops.LOAD, 2, 3, 0,
                Ops.CONST, 3, 1, 0,
                Ops.PROC, 0, 0, 0,
                Ops.CONST, 2, 1, 0,
                Ops.STORE, 0, 2, 0,
                Ops.CONST, 0, 0, 0,
                Ops.DIV, 3, 2, 1);
        slice(desk, 3, false, 0, 1, 2, 3, 6, 7, 8, 9);
        slice(desk, 4, false, 1, 2, 4, 6, 9);
        slice(desk, 0, true, 0, 3, 7);
        slice(desk, 1, true, 1, 3, 4, 9);
        slice(desk, 7, true, 3, 7);
        slice(desk, 9, true, 3, 4, 9);
    }

    private static void fitAdds() {
        ProgramSlices desk = twoCalls();
        slice(desk, 4, false, 0, 2, 3, 4, 7);
        fit(desk, 0, 1, 2, 3, 4, 7);
        fit(desk, 0, 1, 2, 3, 4, 7);
        slice(desk, 4, false, 0, 2, 3, 4, 7);
    }

    /** What is added for one CALL brings the PARAMs for which more must be added to another. */
    private static void fitInRounds() {
        for (int first = Ops.CALL_1; first <= Ops.CALL_2; first++) {
            int second = Ops.CALL_1 + Ops.CALL_2 - first;
            ProgramSlices desk = Ops.built(
                    Ops.INPUT, 0, 0, 0,
                    Ops.INPUT, 1, 1, 0,
                    second, 2, 1, 1,
                    Ops.INPUT, 3, 3, 0,
                    second, 2, 3, 3,
                    first, 1, 2, 2,
                    first, 3, 0, 0,
                    Ops.OUTPUT, 0, 3, 0,
                    Ops.PROC, 0, 0, 0,
                    Ops.ADD, 0, 0, 1,
                    Ops.PROC, 0, 0, 0,
                    Ops.SUB, 0, 0, 1);
            int near = first == Ops.CALL_1 ? 9 : 11;
            slice(desk, 7, false, 0, 2, 4, 5, 6, 7, near);
            fit(desk, 0, 1, 2, 3, 4, 5, 6, 7, 9, 11);
        }
    }

    private static void callAtTheBeginning() {
        ProgramSlices desk = Ops.built(
                Ops.CALL_1, 1, 0, 0,
                Ops.CALL_1, 2, 3, 3,
                Ops.OUTPUT, 0, 2, 0,
                Ops.PROC, 0, 0, 0,
                Ops.CALL_0, 2, 1, 0,
                Ops.MUL, 0, 0, 0);
        slice(desk, 2, false, 0, 1, 2, 4, 5);
        slice(desk, 5, true, 2, 5);
        ProgramSlices loop = Ops.built(
                Ops.WHILE, 0, 0, 0,
                Ops.ADD, 0, 1, 1,
                Ops.INPUT, 1, 0, 0,
                Ops.END, 0, 0, 0);
        slice(loop, 0, false, 0, 1, 2);
        slice(loop, 2, true, 0, 1, 2);
    }

    /** Procedure 0 has PARAMs too, for the CALLs of it. */
    private static void procedureZeroAgain() {
        ProgramSlices desk = Ops.built(
                Ops.CALL_0, 3, 2, 1,
                Ops.ADD, 3, 0, 3,
                Ops.OUTPUT, 0, 3, 0,
                Ops.INPUT, 0, 0, 0,
                Ops.CALL_0, 3, 3, 0);
        slice(desk, 1, false, 0, 1, 3, 4);
        fit(desk, 0, 1, 3, 4);
        slice(desk, 3, true, 1, 2, 3);
        ProgramSlices fit = Ops.built(
                Ops.INPUT, 0, 0, 0,
                Ops.CALL_1, 2, 0, 0,
                Ops.OUTPUT, 0, 2, 0,
                Ops.PROC, 0, 0, 0,
                Ops.IF, 0, 0, 0,
                Ops.CALL_0, 0, 1, 1,
                Ops.END, 0, 0, 0);
        slice(fit, 2, false, 0, 1, 2, 4, 5);
        fit(fit, 0, 1, 2, 4, 5);
    }

    /** Nothing of a program that was cleared is left in the next one. */
    private static void builtAnew() {
        ProgramSlices desk = twoCalls();
        desk.slice(4, false);
        desk.clear();
        Ops.fill(desk, Ops.CONST, 0, 1, 0, Ops.CONST, 1, 1, 0, Ops.CALL_1, 2, 0, 0, Ops.LOAD, 3, 1, 0,
                Ops.OUTPUT, 0, 2, 0, Ops.OUTPUT, 1, 3, 0, Ops.PROC, 0, 0, 0, Ops.CONST, 0, 2, 0);
        Expect.same("build()", desk.build(), 0);
        slice(desk, 4, false, 2, 4, 7);
        slice(desk, 5, false, 1, 2, 3, 5);
        slice(desk, 0, true, 0);
        slice(desk, 7, true, 4, 7);
    }

    private static void fitHeap() {
        ProgramSlices desk = Ops.built(
                Ops.CALL_1, 0, 0, 0,
                Ops.INPUT, 1, 0, 0,
                Ops.STORE, 0, 2, 1,
                Ops.CALL_1, 3, 0, 0,
                Ops.OUTPUT, 0, 0, 0,
                Ops.PROC, 0, 0, 0,
                Ops.LOAD, 0, 2, 0);
        slice(desk, 4, false, 0, 3, 4, 6);
        fit(desk, 0, 1, 2, 3, 4, 6);
    }

    private static void whatEndsARun() {
        ProgramSlices desk = twoCalls();
        desk.run(true, 50);
        Expect.same("steps", desk.steps(), 8);
        desk.slice(4, false);
        Expect.same("steps after slice", desk.steps(), -1);
        Expect.same("written after slice", desk.written(0, -1), 0);
        Expect.same("seen after slice", desk.seen(-1), 0);
        desk.run(true, 50);
        Expect.same("seen", desk.seen(-1), 1);
        desk.fit();
        Expect.same("steps after fit", desk.steps(), -1);
        Expect.same("written after fit", desk.written(0, -1), 0);
        Expect.same("seen after fit", desk.seen(-1), 0);
        desk.run(false, 50);
        Expect.same("steps of the fit slice", desk.steps(), 7);
        desk.slice(4, true);
        Expect.same("steps after a forward slice", desk.steps(), -1);
    }

    private static void refusedKeeps() {
        ProgramSlices desk = twoCalls();
        Expect.same("fit without a slice", desk.fit(), -1);
        desk.slice(4, false);
        desk.run(false, 50);
        int steps = desk.steps();
        for (int bad : new int[] {Integer.MIN_VALUE, -1, 6, 8, 31, 32, 38, Integer.MAX_VALUE}) {
            Expect.same("slice(" + bad + ", false)", desk.slice(bad, false), -1);
            Expect.same("slice(" + bad + ", true)", desk.slice(bad, true), -1);
        }
        Expect.same("the slice before", Ops.mask(desk), Ops.of(0, 2, 3, 4, 7));
        Expect.same("the run before", desk.steps(), steps);
        Expect.same("its values", desk.seen(-1), 1);
        desk.slice(7, true);
        desk.run(true, 50);
        Expect.same("fit of a forward one", desk.fit(), -1);
        Expect.same("the forward slice before", Ops.mask(desk), Ops.of(4, 5, 7));
        Expect.same("the run after a refused fit", desk.steps(), 8);
        Expect.same("its values then", desk.seen(-1), 2);
    }

    private static void slicedEdges() {
        ProgramSlices desk = Ops.built(
                Ops.IF, 0, 0, 0,
                Ops.CONST, 0, 1, 0,
                Ops.ELSE, 0, 0, 0,
                Ops.END, 0, 0, 0,
                Ops.OUTPUT, 0, 0, 0);
        Expect.same("sliced without a slice", desk.sliced(0), false);
        Expect.same("slice of an ELSE", desk.slice(2, false), -1);
        Expect.same("slice of an END", desk.slice(3, true), -1);
        slice(desk, 4, false, 0, 1, 4);
        for (int bad : new int[] {Integer.MIN_VALUE, -32, -28, -1, 5, 31, 32, 33, 36, Integer.MAX_VALUE}) {
            Expect.same("sliced(" + bad + ")", desk.sliced(bad), false);
        }
        Expect.same("an ELSE is no node", desk.sliced(2), false);
        Expect.same("an END is no node", desk.sliced(3), false);
    }
}
