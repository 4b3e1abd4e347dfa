/** Promises 14 to 18: input, run, steps, seen, written. */
public final class RunTest {
    private static final int MIN = Integer.MIN_VALUE;
    private static final int MAX = Integer.MAX_VALUE;

    public static void main(String[] args) {
        inputs();
        arithmetic();
        heap();
        branches();
        loops();
        fuelEdges();
        procedures();
        newVariables();
        tiredByDepth();
        halts();
        runRefused();
        slicePassesOver();
        sliceCalls();
        seenOfEachOp();
        seenLimits();
        writtenEdges();
        Expect.finish();
    }

    private static void inputs() {
        ProgramSlices desk = Ops.built(Ops.INPUT, 0, 3, 0, Ops.OUTPUT, 1, 0, 0);
        for (int bad : new int[] {MIN, -1, 4, 5, MAX}) {
            Expect.same("input(" + bad + ", 9)", desk.input(bad, 9), false);
        }
        Expect.same("input(3, 8)", desk.input(3, 8), true);
        desk.run(true, 9);
        Expect.same("input(3, 4)", desk.input(3, 4), true);
        Expect.same("the latest run stays", desk.written(1, 0), 8);
        Expect.same("its steps stay", desk.steps(), 2);
        desk.run(true, 9);
        Expect.same("the next run has the new input", desk.written(1, 0), 4);
        Expect.same("nothing of the run before", desk.written(1, -1), 1);
        Expect.same("inputs before build", new ProgramSlices().input(0, 1), true);
    }

    private static int binary(int op, int x, int y) {
        ProgramSlices desk = Ops.built(
                Ops.INPUT, 0, 0, 0, Ops.INPUT, 1, 1, 0, op, 2, 0, 1, Ops.OUTPUT, 3, 2, 0);
        desk.input(0, x);
        desk.input(1, y);
        Expect.same("run", desk.run(true, 4), 0);
        return desk.written(3, 0);
    }

    private static void arithmetic() {
        Expect.same("3 + 4", binary(Ops.ADD, 3, 4), 7);
        Expect.same("MAX + 1", binary(Ops.ADD, MAX, 1), MIN);
        Expect.same("3 - 4", binary(Ops.SUB, 3, 4), -1);
        Expect.same("MIN - 1", binary(Ops.SUB, MIN, 1), MAX);
        Expect.same("3 * -4", binary(Ops.MUL, 3, -4), -12);
        Expect.same("65537 * 65537", binary(Ops.MUL, 65537, 65537), 131073);
        Expect.same("3 < 4", binary(Ops.LESS, 3, 4), 1);
        Expect.same("4 < 4", binary(Ops.LESS, 4, 4), 0);
        Expect.same("5 < 4", binary(Ops.LESS, 5, 4), 0);
        Expect.same("MIN < MAX", binary(Ops.LESS, MIN, MAX), 1);
        Expect.same("7 / 2", binary(Ops.DIV, 7, 2), 3);
        Expect.same("-7 / 2", binary(Ops.DIV, -7, 2), -3);
        Expect.same("7 / -2", binary(Ops.DIV, 7, -2), -3);
        Expect.same("MIN / -1", binary(Ops.DIV, MIN, -1), MIN);
        ProgramSlices desk = Ops.built(Ops.CONST, 3, MIN, 99, Ops.OUTPUT, 0, 3, 0, Ops.OUTPUT, 0, 2, 0);
        desk.run(true, 9);
        Expect.same("CONST", desk.written(0, 0), MIN);
        Expect.same("a variable is 0 at first", desk.written(0, 1), 0);
    }

    private static void heap() {
        ProgramSlices desk = Ops.built(
                Ops.CONST, 0, -1, 0,
                Ops.CONST, 1, 77, 0,
                Ops.STORE, 9, 0, 1,
                Ops.CONST, 2, 7, 0,
                Ops.LOAD, 3, 2, 0,
                Ops.OUTPUT, 0, 3, 0,
                Ops.LOAD, 3, 1, 0,
                Ops.OUTPUT, 0, 3, 0,
                Ops.CALL_1, 3, 2, 2,
                Ops.OUTPUT, 0, 3, 0,
                Ops.LOAD, 3, 3, 0,
                Ops.OUTPUT, 0, 3, 0,
                Ops.PROC, 0, 0, 0,
                Ops.LOAD, 0, 0, 0,
                Ops.STORE, 0, 0, 1);
        for (int round = 0; round < 2; round++) {
            Expect.same("run", desk.run(true, 99), 0);
            Expect.same("cell -1 & 3 is cell 7 & 3", desk.written(0, 0), 77);
            Expect.same("cell 77 & 3 is 0 at the beginning of a run", desk.written(0, 1), 0);
            Expect.same("a procedure has the same heap", desk.written(0, 2), 77);
            Expect.same("what it stores stays", desk.written(0, 3), 7);
        }
    }

    private static ProgramSlices branch() {
        return Ops.built(
                Ops.INPUT, 0, 0, 0,
                Ops.IF, 0, 0, 0,
                Ops.OUTPUT, 0, 0, 0,
                Ops.ELSE, 0, 0, 0,
                Ops.CONST, 1, 5, 0,
                Ops.OUTPUT, 1, 1, 0,
                Ops.END, 0, 0, 0,
                Ops.IF, 0, 0, 0,
                Ops.OUTPUT, 2, 0, 0,
                Ops.END, 0, 0, 0);
    }

    private static void branches() {
        ProgramSlices desk = branch();
        Expect.same("run with 0", desk.run(true, 99), 0);
        Expect.same("steps with 0", desk.steps(), 5);
        Expect.same("then is not done", desk.written(0, -1), 0);
        Expect.same("else is done", desk.written(1, 0), 5);
        Expect.same("an IF without ELSE is not done", desk.written(2, -1), 0);
        desk.input(0, -3);
        Expect.same("run with -3", desk.run(true, 99), 0);
        Expect.same("steps with -3", desk.steps(), 5);
        Expect.same("then is done", desk.written(0, 0), -3);
        Expect.same("else is not done", desk.written(1, -1), 0);
        Expect.same("an IF without ELSE is done", desk.written(2, 0), -3);
    }

    private static void loops() {
        ProgramSlices desk = Ops.built(
                Ops.INPUT, 0, 0, 0,
                Ops.CONST, 1, 1, 0,
                Ops.WHILE, 0, 0, 0,
                Ops.INPUT, 2, 1, 0,
                Ops.WHILE, 0, 2, 0,
                Ops.SUB, 2, 2, 1,
                Ops.OUTPUT, 0, 2, 0,
                Ops.END, 0, 0, 0,
                Ops.SUB, 0, 0, 1,
                Ops.END, 0, 0, 0);
        Expect.same("no round", desk.run(true, 3), 0);
        Expect.same("steps of no round", desk.steps(), 3);
        desk.input(0, 2);
        desk.input(1, 3);
        int due = 2 + 2 * (2 + 3 * 3 + 1 + 1) + 1;
        Expect.same("two rounds of three", desk.run(true, due), 0);
        Expect.same("steps of two rounds of three", desk.steps(), due);
        Expect.same("written", desk.written(0, -1), 6);
        Expect.same("the fourth", desk.written(0, 3), 2);
        Expect.same("the last", desk.written(0, 5), 0);
        desk.input(0, -1);
        Expect.same("a loop without end", desk.run(true, 600), 2);
        Expect.same("steps of a loop without end", desk.steps(), 600);
    }

    private static void fuelEdges() {
        ProgramSlices empty = Ops.built();
        Expect.same("an empty program", empty.run(true, 0), 0);
        Expect.same("steps of it", empty.steps(), 0);
        ProgramSlices branch = Ops.built(Ops.IF, 0, 0, 0, Ops.ELSE, 0, 0, 0, Ops.END, 0, 0, 0);
        Expect.same("an IF without fuel", branch.run(true, 0), 2);
        Expect.same("steps without fuel", branch.steps(), 0);
        Expect.same("ELSE and END are no steps", branch.run(true, 1), 0);
        Expect.same("steps of the IF", branch.steps(), 1);
        ProgramSlices loop = Ops.built(
                Ops.CONST, 0, 2, 0,
                Ops.CONST, 1, 1, 0,
                Ops.WHILE, 0, 0, 0,
                Ops.SUB, 0, 0, 1,
                Ops.END, 0, 0, 0);
        Expect.same("just enough", loop.run(true, 7), 0);
        Expect.same("steps", loop.steps(), 7);
        Expect.same("one too few", loop.run(true, 6), 2);
        Expect.same("steps of a tired run", loop.steps(), 6);
        ProgramSlices output = Ops.built(Ops.OUTPUT, 0, 0, 0, Ops.OUTPUT, 0, 0, 0);
        Expect.same("tired before the second", output.run(true, 1), 2);
        Expect.same("what was written before that", output.written(0, -1), 1);
    }

    private static void procedures() {
        ProgramSlices desk = Ops.built(
                Ops.CONST, 0, 3, 0,
                Ops.CONST, 1, 4, 0,
                Ops.CONST, 2, 5, 0,
                Ops.CALL_2, 3, 1, 2,
                Ops.OUTPUT, 0, 3, 0,
                Ops.OUTPUT, 0, 0, 0,
                Ops.CALL_1, 0, 2, 0,
                Ops.OUTPUT, 0, 0, 0,
                Ops.PROC, 0, 0, 0,
                Ops.PROC, 0, 0, 0,
                Ops.OUTPUT, 1, 0, 0,
                Ops.OUTPUT, 1, 1, 0,
                Ops.OUTPUT, 1, 2, 0,
                Ops.OUTPUT, 1, 3, 0,
                Ops.MUL, 0, 0, 1,
                Ops.CONST, 2, 9, 0);
        for (int round = 0; round < 2; round++) {
            Expect.same("run", desk.run(true, 99), 0);
            Expect.same("steps", desk.steps(), 14);
            Expect.same("the result is x0", desk.written(0, 0), 20);
            Expect.same("the caller's x0 is its own", desk.written(0, 1), 3);
            Expect.same("a procedure without instructions gives its first argument", desk.written(0, 2), 5);
            Expect.same("x0 is the first argument", desk.written(1, 0), 4);
            Expect.same("x1 is the second", desk.written(1, 1), 5);
            Expect.same("x2 is 0", desk.written(1, 2), 0);
            Expect.same("x3 is 0", desk.written(1, 3), 0);
        }
    }

    /** A procedure finds 0 in x2 and x3, whatever another one left where it now works. */
    private static void newVariables() {
        ProgramSlices desk = Ops.built(
                Ops.CALL_1, 0, 0, 0,
                Ops.CALL_2, 0, 0, 0,
                Ops.PROC, 0, 0, 0,
                Ops.CONST, 2, 8, 0,
                Ops.CONST, 3, 9, 0,
                Ops.PROC, 0, 0, 0,
                Ops.OUTPUT, 0, 2, 0,
                Ops.OUTPUT, 0, 3, 0);
        Expect.same("run", desk.run(true, 6), 0);
        Expect.same("x2", desk.written(0, 0), 0);
        Expect.same("x3", desk.written(0, 1), 0);
        ProgramSlices again = Ops.built(
                Ops.OUTPUT, 0, 0, 0, Ops.OUTPUT, 0, 1, 0, Ops.OUTPUT, 0, 2, 0, Ops.OUTPUT, 0, 3, 0,
                Ops.CONST, 0, 1, 0, Ops.CONST, 1, 2, 0, Ops.CONST, 2, 3, 0, Ops.CONST, 3, 4, 0);
        for (int round = 0; round < 2; round++) {
            again.run(true, 8);
            for (int x = 0; x < 4; x++) {
                Expect.same("x" + x + " at the beginning of a run", again.written(0, x), 0);
            }
        }
    }

    private static void tiredByDepth() {
        ProgramSlices desk = Ops.built(Ops.CALL_0, 0, 0, 0);
        Expect.same("CALL of itself", desk.run(true, 600), 2);
        Expect.same("the seventh CALL is counted", desk.steps(), 7);
        Expect.same("fuel for seven", desk.run(true, 7), 2);
        Expect.same("steps of it", desk.steps(), 7);
        Expect.same("fuel for six", desk.run(true, 6), 2);
        Expect.same("steps of six", desk.steps(), 6);
        ProgramSlices deep = Ops.built(
                Ops.INPUT, 0, 0, 0,
                Ops.CALL_1, 0, 0, 0,
                Ops.PROC, 0, 0, 0,
                Ops.CONST, 1, 1, 0,
                Ops.SUB, 0, 0, 1,
                Ops.IF, 0, 0, 0,
                Ops.CALL_1, 0, 0, 0,
                Ops.END, 0, 0, 0,
                Ops.OUTPUT, 0, 0, 0);
        deep.input(0, 6);
        Expect.same("seven under way", deep.run(true, 600), 0);
        Expect.same("steps of seven", deep.steps(), 2 + 6 * 4 + 5);
        Expect.same("six came back", deep.written(0, -1), 6);
        deep.input(0, 7);
        Expect.same("an eighth", deep.run(true, 600), 2);
        Expect.same("steps up to the eighth", deep.steps(), 2 + 6 * 4);
        ProgramSlices wide = Ops.built(
                Ops.CALL_1, 0, 0, 0, Ops.CALL_1, 0, 0, 0, Ops.CALL_1, 0, 0, 0, Ops.CALL_1, 0, 0, 0,
                Ops.CALL_1, 0, 0, 0, Ops.CALL_1, 0, 0, 0, Ops.CALL_1, 0, 0, 0, Ops.CALL_1, 0, 0, 0,
                Ops.PROC, 0, 0, 0);
        Expect.same("eight CALLs one after the other", wide.run(true, 8), 0);
    }

    private static void halts() {
        ProgramSlices desk = Ops.built(
                Ops.OUTPUT, 0, 0, 0,
                Ops.CALL_1, 1, 0, 0,
                Ops.OUTPUT, 0, 0, 0,
                Ops.PROC, 0, 0, 0,
                Ops.INPUT, 1, 0, 0,
                Ops.DIV, 0, 1, 1);
        desk.slice(5, false);
        Expect.same("DIV by 0 in a procedure", desk.run(true, 99), 1);
        Expect.same("the DIV is a step", desk.steps(), 4);
        Expect.same("it has no value", desk.seen(-1), 0);
        Expect.same("nothing is done behind it", desk.written(0, -1), 1);
        Expect.same("DIV without fuel", desk.run(true, 3), 2);
        desk.input(0, 5);
        Expect.same("DIV by 5", desk.run(true, 99), 0);
        Expect.same("its value", desk.seen(0), 1);
        Expect.same("steps", desk.steps(), 5);
    }

    private static void runRefused() {
        ProgramSlices desk = new ProgramSlices();
        desk.add(Ops.CONST, 0, 6, 0);
        desk.add(Ops.OUTPUT, 0, 0, 0);
        Expect.same("not built", desk.run(true, 9), -1);
        desk.build();
        Expect.same("no slice", desk.run(false, 9), -1);
        Expect.same("no run yet", desk.steps(), -1);
        desk.slice(0, true);
        Expect.same("a forward slice", desk.run(false, 9), -1);
        Expect.same("the whole", desk.run(true, 600), 0);
        for (int bad : new int[] {MIN, -1, 601, MAX}) {
            Expect.same("fuel " + bad, desk.run(true, bad), -1);
        }
        Expect.same("a forward slice again", desk.run(false, 9), -1);
        Expect.same("the run before stays", desk.steps(), 2);
        Expect.same("what it wrote stays", desk.written(0, 0), 6);
        Expect.same("what was seen stays", desk.seen(0), 6);
        desk.slice(1, false);
        for (int bad : new int[] {MIN, -1, 601, MAX}) {
            Expect.same("fuel for a slice " + bad, desk.run(false, bad), -1);
        }
        Expect.same("no run", desk.steps(), -1);
        Expect.same("a backward slice", desk.run(false, 0), 2);
        Expect.same("its steps", desk.steps(), 0);
    }

    private static void slicePassesOver() {
        ProgramSlices desk = Ops.built(
                Ops.INPUT, 0, 0, 0,
                Ops.IF, 0, 0, 0,
                Ops.OUTPUT, 1, 0, 0,
                Ops.ELSE, 0, 0, 0,
                Ops.OUTPUT, 1, 1, 0,
                Ops.END, 0, 0, 0,
                Ops.WHILE, 0, 0, 0,
                Ops.CONST, 1, 2, 0,
                Ops.OUTPUT, 2, 1, 0,
                Ops.END, 0, 0, 0,
                Ops.OUTPUT, 0, 0, 0);
        desk.input(0, 9);
        Expect.same("the whole does not end", desk.run(true, 600), 2);
        Expect.same("slice(10, false)", desk.slice(10, false), 2);
        Expect.same("the slice ends", desk.run(false, 2), 0);
        Expect.same("its steps", desk.steps(), 2);
        Expect.same("its value", desk.seen(0), 9);
        Expect.same("the other channels", desk.written(1, -1) + desk.written(2, -1), 0);
        Expect.same("its own channel", desk.written(0, 0), 9);
        Expect.same("slice(4, false)", desk.slice(4, false), 3);
        desk.input(0, 0);
        Expect.same("an IF that is in it", desk.run(false, 3), 0);
        Expect.same("steps with an IF", desk.steps(), 3);
        Expect.same("the else was done", desk.seen(-1), 1);
        desk.input(0, 1);
        Expect.same("the other branch is empty", desk.run(false, 3), 0);
        Expect.same("steps of that", desk.steps(), 2);
        Expect.same("the else was not done", desk.seen(-1), 0);
    }

    /** The second CALL is in the slice without its ARGs, and the first without its VALUE. */
    private static void sliceCalls() {
        ProgramSlices desk = Ops.built(
                Ops.CONST, 0, 3, 0,
                Ops.CALL_1, 1, 0, 0,
                Ops.CALL_1, 2, 1, 1,
                Ops.PROC, 0, 0, 0,
                Ops.CONST, 2, 1, 0,
                Ops.DIV, 3, 2, 0);
        Expect.same("slice(4, false)", desk.slice(4, false), 5);
        Expect.same("run with the arguments as they are", desk.run(false, 99), 0);
        Expect.same("steps", desk.steps(), 7);
        Expect.same("seen", desk.seen(-1), 2);
        Expect.same("fit()", desk.fit(), 5);
        Expect.same("run of the fit one", desk.run(false, 99), 0);
        Expect.same("steps of the fit one", desk.steps(), 7);
    }

    private static void seenOf(ProgramSlices desk, int i, int value) {
        desk.slice(i, false);
        desk.run(true, 99);
        Expect.same("how many of " + i, desk.seen(-1), 1);
        Expect.same("value of " + i, desk.seen(0), value);
        Expect.same("no more of " + i, desk.seen(1), 0);
        desk.slice(i, true);
        desk.run(true, 99);
        Expect.same("value of a forward slice's " + i, desk.seen(0), value);
    }

    private static void seenOfEachOp() {
        ProgramSlices desk = Ops.built(
                Ops.CONST, 0, 6, 0,
                Ops.INPUT, 1, 2, 0,
                Ops.ADD, 2, 0, 1,
                Ops.SUB, 2, 0, 1,
                Ops.MUL, 2, 0, 1,
                Ops.LESS, 3, 1, 0,
                Ops.DIV, 3, 0, 1,
                Ops.STORE, 0, 3, 2,
                Ops.LOAD, 2, 3, 0,
                Ops.IF, 0, 1, 0,
                Ops.OUTPUT, 3, 0, 0,
                Ops.END, 0, 0, 0,
                Ops.CALL_1, 2, 0, 0,
                Ops.WHILE, 0, 2, 0,
                Ops.END, 0, 0, 0,
                Ops.PROC, 0, 0, 0,
                Ops.CONST, 0, 0, 0);
        desk.input(2, 4);
        int[] due = {6, 4, 10, 2, 24, 1, 1, 24, 24, 4, 6};
        for (int i = 0; i < due.length; i++) {
            seenOf(desk, i, due[i]);
        }
        seenOf(desk, 13, 0);
        seenOf(desk, 16, 0);
        desk.slice(12, false);
        desk.run(true, 99);
        Expect.same("a CALL has no values", desk.seen(-1), 0);
        ProgramSlices none = Ops.built(Ops.CONST, 0, 6, 0);
        none.run(true, 9);
        Expect.same("no slice, so nothing is seen", none.seen(-1), 0);
        Expect.same("no slice, no value", none.seen(0), 0);
    }

    private static void seenLimits() {
        ProgramSlices desk = Ops.built(
                Ops.CONST, 0, 100, 0,
                Ops.CONST, 1, 1, 0,
                Ops.OUTPUT, 3, 1, 0,
                Ops.WHILE, 0, 0, 0,
                Ops.SUB, 0, 0, 1,
                Ops.OUTPUT, 2, 0, 0,
                Ops.END, 0, 0, 0);
        desk.slice(4, false);
        Expect.same("run", desk.run(true, 600), 0);
        Expect.same("steps", desk.steps(), 304);
        Expect.same("all of them", desk.seen(-1), 100);
        Expect.same("the first", desk.seen(0), 99);
        Expect.same("number 58", desk.seen(58), 41);
        Expect.same("number 59", desk.seen(59), 40);
        for (int none : new int[] {MIN, -2, 60, 61, 99, 100, MAX}) {
            Expect.same("seen(" + none + ")", desk.seen(none), 0);
        }
        Expect.same("all written", desk.written(2, -1), 100);
        Expect.same("written first", desk.written(2, 0), 99);
        Expect.same("written 39", desk.written(2, 39), 60);
        for (int none : new int[] {MIN, -2, 40, 41, 99, 100, MAX}) {
            Expect.same("written(2, " + none + ")", desk.written(2, none), 0);
        }
        Expect.same("the next channel", desk.written(3, 0), 1);
        desk.slice(3, false);
        desk.run(true, 11);
        Expect.same("a WHILE's values in a tired run", desk.seen(-1), 3);
        Expect.same("the third", desk.seen(2), 98);
        Expect.same("none of the run before", desk.seen(3), 0);
        Expect.same("none written before", desk.written(2, 2), 0);
        Expect.same("two written", desk.written(2, -1), 2);
    }

    private static void writtenEdges() {
        ProgramSlices desk = Ops.built(
                Ops.CONST, 0, 8, 0, Ops.OUTPUT, 0, 0, 0, Ops.OUTPUT, 3, 0, 0, Ops.OUTPUT, 3, 1, 0);
        Expect.same("no run", desk.written(0, -1), 0);
        desk.run(true, 99);
        for (int bad : new int[] {MIN, -1, 4, 5, MAX}) {
            Expect.same("how many on no channel", desk.written(bad, -1), 0);
            Expect.same("value on no channel", desk.written(bad, 0), 0);
        }
        Expect.same("channel 0", desk.written(0, -1), 1);
        Expect.same("channel 1", desk.written(1, -1), 0);
        Expect.same("channel 3", desk.written(3, -1), 2);
        Expect.same("channel 3 first", desk.written(3, 0), 8);
        Expect.same("channel 3 second", desk.written(3, 1), 0);
        Expect.same("channel 0 second", desk.written(0, 1), 0);
    }
}
