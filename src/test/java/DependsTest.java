/** Promises 9 and 10: depends, summary. */
public final class DependsTest {
    public static void main(String[] args) {
        controlAndData();
        beginningAndStops();
        heapAndHalt();
        calls();
        wrongDepends();
        summaryOfData();
        summaryOfHeapAndStop();
        summaryThroughItself();
        summaryIsLeast();
        summaryThroughOthers();
        procedureZero();
        builtAnew();
        wrongSummary();
        Expect.finish();
    }

    /** Three numbers each: n, m, and what depends(n, m) is due to answer. */
    private static void depends(ProgramSlices desk, int... rows) {
        for (int i = 0; i + 2 < rows.length; i += 3) {
            String call = "depends(" + rows[i] + ", " + rows[i + 1] + ")";
            Expect.same(call, desk.depends(rows[i], rows[i + 1]), rows[i + 2]);
        }
    }

    /** The nine answers for a CALL, by to and then by of, as a text of 0 and 1. */
    private static void summaries(ProgramSlices desk, int call, String due) {
        for (int k = 0; k < 9; k++) {
            String text = "summary(" + call + ", " + k / 3 + ", " + k % 3 + ")";
            Expect.same(text, desk.summary(call, k / 3, k % 3), due.charAt(k) == '1');
        }
    }

    private static void controlAndData() {
        ProgramSlices desk = Ops.built(
                Ops.INPUT, 0, 0, 0,
                Ops.WHILE, 0, 0, 0,
                Ops.IF, 0, 0, 0,
                Ops.CONST, 1, 1, 0,
                Ops.ELSE, 0, 0, 0,
                Ops.CONST, 1, 2, 0,
                Ops.END, 0, 0, 0,
                Ops.SUB, 0, 0, 1,
                Ops.END, 0, 0, 0,
                Ops.OUTPUT, 0, 1, 0);
        depends(desk, 3, 2, 1, 5, 2, 1, 2, 1, 1, 7, 1, 1, 7, 2, 0, 9, 1, 0, 1, 1, 0, 3, 1, 0);
        depends(desk, 1, 0, 2, 1, 7, 2, 2, 7, 2, 2, 0, 2, 7, 7, 2, 7, 0, 2, 7, 3, 2, 7, 5, 2);
        depends(desk, 9, 3, 2, 9, 5, 2, 9, 0, 0, 9, 7, 0, 3, 5, 0, 0, 1, 0, 2, 3, 0);
        depends(desk, 4, 2, 0, 6, 2, 0, 8, 1, 0, 2, 4, 0, 1, 8, 0);
    }

    private static void beginningAndStops() {
        ProgramSlices desk = Ops.built(
                Ops.ADD, 0, 0, 0,
                Ops.CONST, 0, 5, 0,
                Ops.STORE, 0, 0, 1,
                Ops.IF, 0, 3, 0,
                Ops.CONST, 1, 5, 0,
                Ops.END, 0, 0, 0,
                Ops.LESS, 2, 1, 0,
                Ops.LOAD, 0, 2, 0,
                Ops.DIV, 3, 0, 2);
        depends(desk, 0, 0, 0, 2, 0, 0, 2, 1, 2, 6, 4, 2, 6, 1, 2, 6, 0, 0, 7, 6, 2, 7, 2, 4);
        depends(desk, 8, 7, 2, 8, 6, 2, 8, 1, 0, 3, 8, 0, 8, 8, 0, 4, 3, 1, 6, 3, 0);
    }

    private static void heapAndHalt() {
        ProgramSlices desk = Ops.built(
                Ops.STORE, 0, 0, 0,
                Ops.LOAD, 1, 0, 0,
                Ops.DIV, 2, 1, 1,
                Ops.WHILE, 0, 0, 0,
                Ops.LOAD, 1, 0, 0,
                Ops.STORE, 0, 1, 1,
                Ops.DIV, 1, 1, 1,
                Ops.END, 0, 0, 0,
                Ops.STORE, 0, 0, 0,
                Ops.LOAD, 3, 0, 0);
        depends(desk, 1, 0, 4, 0, 0, 0, 4, 5, 4, 4, 6, 8, 6, 6, 8, 5, 6, 8, 4, 8, 0, 1, 8, 0);
        depends(desk, 9, 8, 4, 9, 5, 4, 9, 0, 4, 9, 2, 8, 9, 6, 8, 3, 2, 8, 3, 6, 8, 2, 1, 2);
        depends(desk, 2, 0, 0, 1, 2, 0, 6, 4, 2, 5, 4, 2, 6, 3, 1, 4, 3, 1, 6, 2, 8, 8, 5, 0, 2, 2, 0);
        ProgramSlices two = Ops.built(
                Ops.DIV, 0, 1, 2,
                Ops.IF, 0, 0, 0,
                Ops.DIV, 1, 0, 0,
                Ops.ELSE, 0, 0, 0,
                Ops.ADD, 2, 0, 1,
                Ops.END, 0, 0, 0,
                Ops.OUTPUT, 0, 1, 0);
        depends(two, 1, 0, 10, 2, 0, 10, 4, 0, 10, 4, 2, 0, 6, 2, 10, 6, 0, 8, 0, 2, 0);
    }

    private static void calls() {
        ProgramSlices desk = Ops.built(
                Ops.CALL_1, 0, 0, 1,
                Ops.WHILE, 0, 0, 0,
                Ops.CALL_1, 1, 1, 0,
                Ops.END, 0, 0, 0,
                Ops.STORE, 0, 2, 1,
                Ops.LOAD, 3, 0, 0,
                Ops.PROC, 0, 0, 0,
                Ops.ADD, 0, 0, 1);
        depends(desk, 1, 0, 10, 2, 0, 14, 2, 2, 14, 2, 1, 1, 4, 2, 10, 4, 0, 8, 5, 0, 14, 5, 2, 12);
        depends(desk, 5, 4, 4, 2, 4, 0, 0, 2, 0, 0, 0, 0, 7, 0, 0, 0, 7, 0, 6, 0, 0, 0, 6, 0, 7, 7, 0);
    }

    private static void wrongDepends() {
        ProgramSlices desk = new ProgramSlices();
        Ops.fill(desk, Ops.INPUT, 0, 0, 0, Ops.OUTPUT, 0, 0, 0);
        Expect.same("depends when not built", desk.depends(1, 0), 0);
        desk.build();
        depends(desk, 1, 0, 2);
        for (int bad : new int[] {Integer.MIN_VALUE, -32, -1, 2, 31, 32, 33, Integer.MAX_VALUE}) {
            depends(desk, bad, 0, 0, 1, bad, 0, bad, bad, 0);
        }
    }

    private static void summaryOfData() {
        ProgramSlices desk = Ops.built(
                Ops.CALL_1, 0, 0, 1,
                Ops.CALL_2, 0, 0, 1,
                Ops.CALL_3, 0, 0, 1,
                Ops.CALL_0, 0, 0, 1,
                Ops.PROC, 0, 0, 0,
                Ops.ADD, 0, 0, 1,
                Ops.PROC, 0, 0, 0,
                Ops.PROC, 0, 0, 0,
                Ops.CONST, 0, 1, 0,
                Ops.IF, 0, 1, 0,
                Ops.CONST, 0, 2, 0,
                Ops.END, 0, 0, 0);
        summaries(desk, 0, "110000000");
        summaries(desk, 1, "100000000");
        summaries(desk, 2, "010000000");
        summaries(desk, 3, "000000000");
    }

    private static void summaryOfHeapAndStop() {
        ProgramSlices desk = Ops.built(
                Ops.CALL_1, 3, 0, 1,
                Ops.CALL_2, 3, 0, 1,
                Ops.CALL_3, 3, 0, 1,
                Ops.PROC, 0, 0, 0,
                Ops.LOAD, 2, 0, 0,
                Ops.STORE, 0, 3, 2,
                Ops.DIV, 3, 3, 1,
                Ops.PROC, 0, 0, 0,
                Ops.STORE, 0, 0, 0,
                Ops.LOAD, 0, 3, 0,
                Ops.PROC, 0, 0, 0,
                Ops.DIV, 2, 2, 1,
                Ops.CONST, 0, 3, 0,
                Ops.STORE, 0, 0, 0);
        summaries(desk, 0, "100101010");
        summaries(desk, 1, "101100000");
        summaries(desk, 2, "010010010");
    }

    private static void summaryThroughItself() {
        ProgramSlices desk = Ops.built(
                Ops.CALL_1, 0, 0, 1,
                Ops.PROC, 0, 0, 0,
                Ops.IF, 0, 2, 0,
                Ops.CALL_1, 0, 1, 0,
                Ops.END, 0, 0, 0);
        summaries(desk, 0, "110000000");
        summaries(desk, 3, "110000000");
    }

    private static void summaryIsLeast() {
        ProgramSlices desk = Ops.built(
                Ops.CALL_1, 0, 0, 1,
                Ops.PROC, 0, 0, 0,
                Ops.CALL_1, 0, 0, 1);
        summaries(desk, 0, "000000000");
        summaries(desk, 2, "000000000");
    }

    private static void summaryThroughOthers() {
        ProgramSlices desk = Ops.built(
                Ops.CALL_1, 0, 0, 1,
                Ops.PROC, 0, 0, 0,
                Ops.CALL_2, 0, 1, 2,
                Ops.PROC, 0, 0, 0,
                Ops.CALL_3, 3, 2, 0,
                Ops.LOAD, 0, 2, 0,
                Ops.PROC, 0, 0, 0,
                Ops.STORE, 0, 0, 1,
                Ops.DIV, 0, 0, 1);
        summaries(desk, 0, "011010010");
        summaries(desk, 2, "101100100");
        summaries(desk, 4, "110110110");
    }

    private static void procedureZero() {
        ProgramSlices desk = Ops.built(
                Ops.WHILE, 0, 1, 0,
                Ops.CALL_0, 1, 2, 0,
                Ops.STORE, 0, 3, 1,
                Ops.END, 0, 0, 0,
                Ops.LOAD, 2, 3, 0,
                Ops.DIV, 2, 2, 0);
        depends(desk, 0, 1, 10, 1, 0, 1, 1, 1, 12, 1, 2, 4, 2, 1, 10, 4, 1, 12, 4, 2, 4, 5, 4, 2, 0, 5, 0);
        summaries(desk, 1, "100111111");
    }

    private static void builtAnew() {
        ProgramSlices desk = Ops.built(
                Ops.CALL_1, 0, 0, 1, Ops.DIV, 1, 0, 0, Ops.LOAD, 2, 0, 0, Ops.PROC, 0, 0, 0, Ops.MUL, 0, 0, 1);
        depends(desk, 1, 0, 10, 2, 0, 14, 2, 1, 8);
        summaries(desk, 0, "110000000");
        desk.clear();
        Ops.fill(desk, Ops.CALL_1, 3, 0, 1, Ops.CONST, 1, 0, 0, Ops.LOAD, 2, 0, 0, Ops.PROC, 0, 0, 0,
                Ops.CONST, 0, 0, 1);
        Expect.same("build()", desk.build(), 0);
        depends(desk, 1, 0, 8, 2, 0, 12, 2, 1, 0);
        summaries(desk, 0, "000000000");
    }

    private static void wrongSummary() {
        ProgramSlices desk = new ProgramSlices();
        Ops.fill(desk, Ops.CALL_1, 0, 0, 0, Ops.IF, 0, 0, 0, Ops.END, 0, 0, 0, Ops.PROC, 0, 0, 0);
        Expect.same("summary when not built", desk.summary(0, 0, 0), false);
        desk.build();
        Expect.same("summary(0, 0, 0)", desk.summary(0, 0, 0), true);
        for (int bad : new int[] {Integer.MIN_VALUE, -1, 1, 2, 3, 4, 32, Integer.MAX_VALUE}) {
            Expect.same("summary of no CALL", desk.summary(bad, 0, 0), false);
        }
        for (int bad : new int[] {Integer.MIN_VALUE, -1, 3, 4, 32, Integer.MAX_VALUE}) {
            Expect.same("summary to no node", desk.summary(0, bad, 0), false);
            Expect.same("summary of no node", desk.summary(0, 0, bad), false);
        }
    }
}
