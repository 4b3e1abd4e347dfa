/** The sentences under 'Terms' that name boundary cases, one method each, in the document's order. */
public final class TermsTest {
    private static final int MIN = Integer.MIN_VALUE;
    private static final int MAX = Integer.MAX_VALUE;

    public static void main(String[] args) {
        atMost32Instructions();
        lastPlaceOf32();
        lastPlaceIsEndOrCall();
        lastPlaceHasSummaries();
        lastPlaceIsMadeFit();
        lastPlaceIsInput();
        largestSlices();
        lastPlaceIsProc();
        sumsAndProductsWrap();
        lessAtTheEdges();
        divAsJavaDivides();
        divByZeroHalts();
        heapCellIsMasked();
        whatIsNotNamedMeansNothing();
        anyNumberButZeroIsTrue();
        emptyBranches();
        emptyLoops();
        whileIsLookedAtAgain();
        runBeginsWithZeros();
        callBeginsWithZeros();
        resultIsX0AtTheEnd();
        whatIsAStep();
        haltIsAStep();
        tiredBeyondTheFuel();
        tiredWhileSevenAreUnderWay();
        fuelOfZero();
        waysOfIf();
        waysOfElse();
        waysOfWhile();
        waysStayInTheProcedure();
        reachedByOneStepOrMore();
        definitionsReach();
        definitionReachesItself();
        beginningReachesTheFirst();
        beginningReachesTheExit();
        onlyTwoParams();
        elseEndProcAreNoNodes();
        controlAtTheEdges();
        heapAtTheEdges();
        haltAtTheEdges();
        summaryOfEmptyProcedures();
        sliceOfANodeAlone();
        fitNeedsTheCall();
        passedOver();
        argumentsAsTheyAre();
        resultWithoutValue();
        oneLevelAtFirst();
        latticeAtTheEdges();
        sinksAtTheEdges();
        Expect.finish();
    }

    /** "INSTRUCTIONS are numbered 0, 1, .. in the order in which they were added, at most 32." */
    private static void atMost32Instructions() {
        ProgramSlices desk = new ProgramSlices();
        for (int i = 0; i < 32; i++) {
            Expect.same("add number " + i, desk.add(Ops.OUTPUT, i & 3, 0, 0), i);
        }
        for (int op = 0; op <= 18; op++) {
            Expect.same("add beyond 32 of op " + op, desk.add(op, 0, 0, 0), -1);
        }
        Expect.same("build of 32", desk.build(), 0);
        Expect.same("run of 32", desk.run(true, 32), 0);
        Expect.same("steps of 32", desk.steps(), 32);
        for (int channel = 0; channel < 4; channel++) {
            Expect.same("written of 32", desk.written(channel, -1), 8);
        }
        desk.clear();
        Expect.same("add after clear", desk.add(Ops.PROC, 0, 0, 0), 0);
    }

    /** Number 31 does all that the others do. */
    private static void lastPlaceOf32() {
        ProgramSlices desk = new ProgramSlices();
        for (int i = 0; i < 29; i++) {
            desk.add(Ops.CONST, 2, i, 0);
        }
        Ops.fill(desk, Ops.INPUT, 0, 3, 0, Ops.DIV, 1, 0, 2, Ops.OUTPUT, 0, 1, 0);
        Expect.same("build of 32", desk.build(), 0);
        Expect.same("31 on 30", desk.depends(31, 30), 10);
        Expect.same("31 on 29", desk.depends(31, 29), 0);
        Expect.same("30 on 28", desk.depends(30, 28), 2);
        Expect.same("30 on 31", desk.depends(30, 31), 0);
        Expect.same("slice(31, false)", desk.slice(31, false), 4);
        Expect.same("instructions of it", Ops.mask(desk), Ops.of(28, 29, 30, 31));
        desk.input(3, 85);
        Expect.same("run of it", desk.run(false, 4), 0);
        Expect.same("seen of 31", desk.seen(0), 3);
        Expect.same("slice(29, true)", desk.slice(29, true), 3);
        Expect.same("instructions of that", Ops.mask(desk), Ops.of(29, 30, 31));
        Expect.same("slice(31, true)", desk.slice(31, true), 1);
        Expect.same("31 in it", desk.sliced(31), true);
        desk.levels(2);
        desk.below(0, 1);
        desk.label(false, 3, 1);
        Expect.same("flows of 32", desk.check(), 2);
        Expect.same("flow(0)", desk.flow(0), 32 * 29 + 30);
        Expect.same("flow(1)", desk.flow(1), 32 * 29 + 31);
        Expect.same("flow(2)", desk.flow(2), -1);
    }

    private static void lastPlaceIsEndOrCall() {
        ProgramSlices loop = new ProgramSlices();
        Ops.fill(loop, Ops.INPUT, 0, 0, 0, Ops.CONST, 1, 1, 0, Ops.WHILE, 0, 0, 0);
        for (int i = 3; i < 30; i++) {
            loop.add(Ops.CONST, 2, i, 0);
        }
        Ops.fill(loop, Ops.SUB, 0, 0, 1, Ops.END, 0, 0, 0);
        Expect.same("build with an END at 31", loop.build(), 0);
        loop.input(0, 2);
        Expect.same("run with an END at 31", loop.run(true, 600), 0);
        Expect.same("steps of it", loop.steps(), 3 + 2 * 29);
        Expect.same("slice of the WHILE", loop.slice(2, false), 4);
        Expect.same("the END is no node", loop.slice(31, false), -1);
        ProgramSlices call = new ProgramSlices();
        Ops.fill(call, Ops.CALL_1, 0, 0, 0, Ops.PROC, 0, 0, 0);
        for (int i = 2; i < 31; i++) {
            call.add(Ops.OUTPUT, 0, 0, 0);
        }
        call.add(Ops.CALL_2, 0, 0, 1);
        Expect.same("build with a CALL of nothing at 31", call.build(), -3 - 31);
        call.clear();
        Ops.fill(call, Ops.CALL_1, 0, 0, 0, Ops.PROC, 0, 0, 0, Ops.STORE, 0, 1, 1, Ops.PROC, 0, 0, 0);
        for (int i = 4; i < 31; i++) {
            call.add(Ops.OUTPUT, 0, 0, 0);
        }
        call.add(Ops.CALL_1, 0, 1, 0);
        Expect.same("build with a CALL at 31", call.build(), 0);
        Expect.same("summary of 31", call.summary(31, 1, 1), true);
        Expect.same("no summary of 31", call.summary(31, 1, 2), false);
        Expect.same("slice of 31", call.slice(31, false), 1);
        Expect.same("STORE's slice has both CALLs", call.slice(2, false), 3);
        Expect.same("the CALL at 31", call.sliced(31), true);
    }

    /** The summaries of a CALL at 31, and of one at 0 when there are 32, are its own alone. */
    private static void lastPlaceHasSummaries() {
        ProgramSlices last = new ProgramSlices();
        Ops.fill(last, Ops.CALL_2, 2, 0, 1, Ops.PROC, 0, 0, 0, Ops.STORE, 0, 2, 1, Ops.CONST, 0, 1, 0, Ops.PROC, 0, 0, 0);
        for (int i = 5; i < 31; i++) {
            last.add(Ops.CONST, 3, i, 0);
        }
        last.add(Ops.CALL_1, 0, 0, 1);
        Expect.same("build", last.build(), 0);
        summaries("a CALL at 31", last, 31, "000010000");
        summaries("a CALL of what calls at 31", last, 0, "000010000");
        ProgramSlices first = new ProgramSlices();
        first.add(Ops.CALL_1, 2, 0, 1);
        for (int i = 1; i < 28; i++) {
            first.add(Ops.CONST, 3, i, 0);
        }
        Ops.fill(first, Ops.PROC, 0, 0, 0, Ops.ADD, 0, 0, 0, Ops.PROC, 0, 0, 0, Ops.CALL_0, 0, 0, 1);
        Expect.same("build", first.build(), 0);
        summaries("a CALL at 0 of 32", first, 0, "100000000");
        summaries("a CALL of what calls at 0", first, 31, "100000000");
    }

    private static void lastPlaceIsMadeFit() {
        ProgramSlices desk = new ProgramSlices();
        Ops.fill(desk, Ops.CALL_2, 2, 2, 2, Ops.INPUT, 1, 0, 0, Ops.CALL_1, 3, 1, 1, Ops.OUTPUT, 0, 3, 0,
                Ops.PROC, 0, 0, 0, Ops.ADD, 0, 1, 1, Ops.PROC, 0, 0, 0);
        for (int i = 7; i < 29; i++) {
            desk.add(Ops.CONST, 3, i, 0);
        }
        Ops.fill(desk, Ops.INPUT, 0, 1, 0, Ops.INPUT, 1, 2, 0, Ops.CALL_1, 0, 0, 1);
        Expect.same("build", desk.build(), 0);
        Expect.same("slice with a CALL at 31", desk.slice(3, false), 6);
        Expect.same("its instructions", Ops.mask(desk), Ops.of(0, 1, 2, 3, 5, 31));
        Expect.same("fit", desk.fit(), 7);
        Expect.same("only ARG 1 of 31 is added", Ops.mask(desk), Ops.of(0, 1, 2, 3, 5, 30, 31));
    }

    private static void lastPlaceIsInput() {
        ProgramSlices desk = new ProgramSlices();
        Ops.fill(desk, Ops.CALL_1, 0, 0, 0, Ops.OUTPUT, 0, 0, 0, Ops.PROC, 0, 0, 0, Ops.INPUT, 0, 0, 0);
        for (int i = 4; i < 31; i++) {
            desk.add(Ops.CONST, 3, i, 0);
        }
        desk.add(Ops.INPUT, 0, 1, 0);
        Expect.same("build", desk.build(), 0);
        desk.levels(2);
        desk.below(0, 1);
        desk.label(false, 0, 1);
        desk.label(false, 1, 1);
        Expect.same("check", desk.check(), 1);
        Expect.same("the INPUT at 31", desk.flow(0), 32 * 31 + 1);
        Expect.same("no other", desk.flow(1), -1);
    }

    /** As many nodes as there may be, nearly all of them in the slice. */
    private static void largestSlices() {
        ProgramSlices desk = new ProgramSlices();
        desk.add(Ops.WHILE, 0, 0, 0);
        for (int i = 1; i < 26; i++) {
            desk.add(Ops.CALL_1, 0, 0, 0);
        }
        Ops.fill(desk, Ops.END, 0, 0, 0, Ops.OUTPUT, 0, 0, 0, Ops.PROC, 0, 0, 0,
                Ops.LOAD, 1, 1, 0, Ops.STORE, 0, 1, 0, Ops.DIV, 0, 0, 1);
        Expect.same("build", desk.build(), 0);
        Expect.same("backward", desk.slice(27, false), 30);
        Expect.same("fit", desk.fit(), 30);
        Expect.same("forward", desk.slice(0, true), 30);
        Expect.same("all but END and PROC", Ops.mask(desk), 0xFFFFFFFFL & ~Ops.of(26, 28));
    }

    private static void lastPlaceIsProc() {
        ProgramSlices desk = new ProgramSlices();
        Ops.fill(desk, Ops.INPUT, 0, 0, 0, Ops.CALL_1, 1, 0, 2, Ops.OUTPUT, 3, 1, 0);
        for (int i = 3; i < 31; i++) {
            desk.add(Ops.CONST, 0, i, 0);
        }
        desk.add(Ops.PROC, 0, 0, 0);
        Expect.same("build with a PROC at 31", desk.build(), 0);
        Expect.same("summary of its CALL", desk.summary(1, 0, 0), true);
        Expect.same("no other", desk.summary(1, 0, 1), false);
        Expect.same("slice through it", desk.slice(2, false), 3);
        desk.input(0, 12);
        Expect.same("run through it", desk.run(false, 3), 0);
        Expect.same("its result", desk.written(3, 0), 12);
        Expect.same("whole run", desk.run(true, 600), 0);
        Expect.same("steps", desk.steps(), 31);
        ProgramSlices open = new ProgramSlices();
        for (int i = 0; i < 31; i++) {
            open.add(Ops.CONST, 0, i, 0);
        }
        open.add(Ops.IF, 0, 0, 0);
        Expect.same("an IF open at the end of 32", open.build(), -3 - 32);
    }

    private static int binary(int op, int x, int y) {
        ProgramSlices desk = Ops.built(
                Ops.INPUT, 0, 0, 0, Ops.INPUT, 3, 3, 0, op, 1, 0, 3, Ops.OUTPUT, 2, 1, 0);
        desk.input(0, x);
        desk.input(3, y);
        int end = desk.run(true, 4);
        Expect.same("run", end, op == Ops.DIV && y == 0 ? 1 : 0);
        return desk.written(2, 0);
    }

    /** "ints, sums and products wrap" */
    private static void sumsAndProductsWrap() {
        Expect.same("MAX + 1", binary(Ops.ADD, MAX, 1), MIN);
        Expect.same("MIN + -1", binary(Ops.ADD, MIN, -1), MAX);
        Expect.same("MAX + MAX", binary(Ops.ADD, MAX, MAX), -2);
        Expect.same("MIN + MIN", binary(Ops.ADD, MIN, MIN), 0);
        Expect.same("MAX - -1", binary(Ops.SUB, MAX, -1), MIN);
        Expect.same("MIN - 1", binary(Ops.SUB, MIN, 1), MAX);
        Expect.same("0 - MIN", binary(Ops.SUB, 0, MIN), MIN);
        Expect.same("MAX * 2", binary(Ops.MUL, MAX, 2), -2);
        Expect.same("MIN * -1", binary(Ops.MUL, MIN, -1), MIN);
        Expect.same("65536 * 65536", binary(Ops.MUL, 65536, 65536), 0);
        Expect.same("MAX * MAX", binary(Ops.MUL, MAX, MAX), 1);
    }

    /** "xd becomes 1 if xa < xb, else 0": by the numbers, not by a difference that wraps. */
    private static void lessAtTheEdges() {
        Expect.same("MIN < 1", binary(Ops.LESS, MIN, 1), 1);
        Expect.same("1 < MIN", binary(Ops.LESS, 1, MIN), 0);
        Expect.same("MAX < -1", binary(Ops.LESS, MAX, -1), 0);
        Expect.same("-1 < MAX", binary(Ops.LESS, -1, MAX), 1);
        Expect.same("MIN < MIN", binary(Ops.LESS, MIN, MIN), 0);
        Expect.same("-1 < 0", binary(Ops.LESS, -1, 0), 1);
        Expect.same("0 < 0", binary(Ops.LESS, 0, 0), 0);
    }

    /** "xd becomes xa / xb as Java's ints divide" */
    private static void divAsJavaDivides() {
        Expect.same("MIN / -1", binary(Ops.DIV, MIN, -1), MIN);
        Expect.same("MIN / 1", binary(Ops.DIV, MIN, 1), MIN);
        Expect.same("MAX / -1", binary(Ops.DIV, MAX, -1), -MAX);
        Expect.same("-1 / 2", binary(Ops.DIV, -1, 2), 0);
        Expect.same("-9 / 5", binary(Ops.DIV, -9, 5), -1);
        Expect.same("9 / -5", binary(Ops.DIV, 9, -5), -1);
        Expect.same("-9 / -5", binary(Ops.DIV, -9, -5), 1);
        Expect.same("0 / 7", binary(Ops.DIV, 0, 7), 0);
        Expect.same("MAX / MIN", binary(Ops.DIV, MAX, MIN), 0);
    }

    /** "if xb is 0 the run HALTS" */
    private static void divByZeroHalts() {
        for (int x : new int[] {0, 1, -1, MIN, MAX}) {
            ProgramSlices desk = Ops.built(
                    Ops.INPUT, 0, 0, 0, Ops.OUTPUT, 1, 0, 0, Ops.DIV, 0, 0, 1, Ops.OUTPUT, 1, 0, 0);
            desk.input(0, x);
            desk.slice(2, false);
            Expect.same(x + " / 0", desk.run(true, 600), 1);
            Expect.same("steps of " + x + " / 0", desk.steps(), 3);
            Expect.same("written before " + x + " / 0", desk.written(1, -1), 1);
            Expect.same("no value of " + x + " / 0", desk.seen(-1), 0);
            Expect.same("slice halts too", desk.run(false, 600), 1);
            Expect.same("steps of the slice", desk.steps(), 2);
        }
        ProgramSlices inside = Ops.built(
                Ops.CALL_1, 0, 0, 0, Ops.OUTPUT, 0, 0, 0, Ops.PROC, 0, 0, 0,
                Ops.CALL_2, 0, 0, 0, Ops.OUTPUT, 0, 0, 0, Ops.PROC, 0, 0, 0,
                Ops.DIV, 0, 0, 0, Ops.OUTPUT, 0, 0, 0);
        Expect.same("a DIV two procedures down ends the whole run", inside.run(true, 600), 1);
        Expect.same("its steps", inside.steps(), 3);
        Expect.same("nothing is written behind it", inside.written(0, -1), 0);
    }

    /** "heap cell xa & 3", of a LOAD and of a STORE. */
    private static void heapCellIsMasked() {
        int[] cells = {0, 1, 2, 3, 4, 7, -1, -2, -3, -4, MIN, MAX, MIN + 1, MAX - 1};
        for (int cell : cells) {
            for (int other = 0; other < 4; other++) {
                boolean same = (cell - other) % 4 == 0;
                Expect.same("cell " + cell + " is cell " + other, through(cell, other), same ? 77 : 0);
                Expect.same("cell " + other + " is cell " + cell, through(other, cell), same ? 77 : 0);
            }
        }
    }

    private static int through(int store, int load) {
        ProgramSlices desk = Ops.built(
                Ops.CONST, 0, store, 0, Ops.CONST, 1, 77, 0, Ops.STORE, 0, 0, 1,
                Ops.CONST, 2, load, 0, Ops.LOAD, 3, 2, 0, Ops.OUTPUT, 0, 3, 0);
        desk.run(true, 600);
        return desk.written(0, 0);
    }

    /** "(What an op doesn't name of d, a, b means nothing.)" */
    private static void whatIsNotNamedMeansNothing() {
        int[] odd = {MIN, -1, 1, 3, 4, MAX};
        for (int x : odd) {
            ProgramSlices desk = Ops.built(
                    Ops.CONST, 0, 5, x, Ops.INPUT, 1, 0, x, Ops.STORE, x, 0, 0, Ops.LOAD, 2, 0, x,
                    Ops.IF, x, 0, x, Ops.OUTPUT, 0, 2, x, Ops.ELSE, x, x, x, Ops.OUTPUT, 1, 2, x, Ops.END, x, x, x,
                    Ops.WHILE, x, 3, x, Ops.END, x, x, x, Ops.PROC, x, x, x, Ops.CONST, 1, x, x);
            Expect.same("run", desk.run(true, 600), 0);
            Expect.same("steps", desk.steps(), 7);
            Expect.same("written", desk.written(0, 0), 5);
            Expect.same("STORE defines nothing", desk.depends(5, 2), 0);
            Expect.same("LOAD reads xa alone", desk.depends(3, 1), 0);
            Expect.same("IF reads xa alone", desk.depends(4, 1) + desk.depends(4, 3), 0);
            Expect.same("OUTPUT reads xa alone", desk.depends(5, 0) + desk.depends(5, 1), 0);
        }
    }

    private static ProgramSlices branch() {
        return Ops.built(
                Ops.INPUT, 0, 0, 0, Ops.IF, 0, 0, 0, Ops.OUTPUT, 0, 0, 0, Ops.ELSE, 0, 0, 0,
                Ops.OUTPUT, 1, 0, 0, Ops.END, 0, 0, 0);
    }

    /** "What is done if xa is not 0 stands right behind IF or WHILE; between ELSE and END .. if it is 0." */
    private static void anyNumberButZeroIsTrue() {
        for (int x : new int[] {MIN, -1, 0, 1, 2, MAX}) {
            ProgramSlices desk = branch();
            desk.input(0, x);
            Expect.same("IF " + x, desk.run(true, 3), 0);
            Expect.same("done behind IF " + x, desk.written(0, -1), x == 0 ? 0 : 1);
            Expect.same("done behind ELSE of " + x, desk.written(1, -1), x == 0 ? 1 : 0);
            ProgramSlices loop = Ops.built(
                    Ops.INPUT, 0, 0, 0, Ops.WHILE, 0, 0, 0, Ops.OUTPUT, 0, 0, 0, Ops.CONST, 0, 0, 0, Ops.END, 0, 0, 0);
            loop.input(0, x);
            Expect.same("WHILE " + x, loop.run(true, 600), 0);
            Expect.same("rounds of WHILE " + x, loop.written(0, -1), x == 0 ? 0 : 1);
        }
    }

    private static void emptyBranches() {
        for (int x = 0; x < 2; x++) {
            ProgramSlices none = Ops.built(Ops.INPUT, 0, 0, 0, Ops.IF, 0, 0, 0, Ops.END, 0, 0, 0, Ops.OUTPUT, 0, 0, 0);
            none.input(0, x);
            Expect.same("an empty IF", none.run(true, 3), 0);
            Expect.same("steps of an empty IF", none.steps(), 3);
            ProgramSlices left = Ops.built(
                    Ops.INPUT, 0, 0, 0, Ops.IF, 0, 0, 0, Ops.ELSE, 0, 0, 0, Ops.OUTPUT, 0, 0, 0, Ops.END, 0, 0, 0);
            left.input(0, x);
            Expect.same("an IF with nothing before ELSE", left.run(true, 3), 0);
            Expect.same("written behind ELSE", left.written(0, -1), 1 - x);
            ProgramSlices right = Ops.built(
                    Ops.INPUT, 0, 0, 0, Ops.IF, 0, 0, 0, Ops.OUTPUT, 0, 0, 0, Ops.ELSE, 0, 0, 0, Ops.END, 0, 0, 0);
            right.input(0, x);
            Expect.same("an IF with nothing behind ELSE", right.run(true, 3), 0);
            Expect.same("written before ELSE", right.written(0, -1), x);
        }
    }

    private static void emptyLoops() {
        ProgramSlices loop = Ops.built(Ops.INPUT, 0, 0, 0, Ops.WHILE, 0, 0, 0, Ops.END, 0, 0, 0);
        Expect.same("an empty WHILE of 0", loop.run(true, 2), 0);
        Expect.same("steps of it", loop.steps(), 2);
        loop.input(0, 1);
        Expect.same("an empty WHILE of 1", loop.run(true, 600), 2);
        Expect.same("steps of that", loop.steps(), 600);
    }

    /** "After its END a WHILE is looked at again." */
    private static void whileIsLookedAtAgain() {
        ProgramSlices desk = Ops.built(
                Ops.INPUT, 0, 0, 0, Ops.CONST, 1, 1, 0, Ops.WHILE, 0, 0, 0, Ops.SUB, 0, 0, 1, Ops.END, 0, 0, 0);
        for (int rounds = 0; rounds < 4; rounds++) {
            desk.slice(2, false);
            desk.input(0, rounds);
            Expect.same("rounds " + rounds, desk.run(true, 600), 0);
            Expect.same("the WHILE was looked at", desk.seen(-1), rounds + 1);
            Expect.same("the first look", desk.seen(0), rounds);
            Expect.same("the last look", desk.seen(rounds), 0);
            Expect.same("steps", desk.steps(), 3 + 2 * rounds);
        }
    }

    /** "A RUN begins procedure 0 with all variables and heap cells 0." */
    private static void runBeginsWithZeros() {
        ProgramSlices desk = new ProgramSlices();
        for (int x = 0; x < 4; x++) {
            desk.add(Ops.OUTPUT, 0, x, 0);
        }
        for (int x = 0; x < 4; x++) {
            Ops.fill(desk, Ops.CONST, 1, x, 0, Ops.LOAD, 2, 1, 0, Ops.OUTPUT, 1, 2, 0, Ops.CONST, 3, 9, 0,
                    Ops.STORE, 0, 1, 3);
        }
        desk.add(Ops.CONST, 0, 9, 0);
        Expect.same("build", desk.build(), 0);
        for (int round = 0; round < 2; round++) {
            Expect.same("run", desk.run(true, 600), 0);
            for (int x = 0; x < 4; x++) {
                Expect.same("x" + x, desk.written(0, x), 0);
                Expect.same("cell " + x, desk.written(1, x), 0);
            }
            Expect.same("how many", desk.written(0, -1) + desk.written(1, -1), 8);
        }
    }

    /** "A CALL begins a procedure with x0, x1 the two arguments and x2, x3 0", procedure 0 too. */
    private static void callBeginsWithZeros() {
        ProgramSlices desk = Ops.built(
                Ops.OUTPUT, 0, 0, 0, Ops.OUTPUT, 1, 1, 0, Ops.OUTPUT, 2, 2, 0, Ops.OUTPUT, 3, 3, 0,
                Ops.CONST, 2, 8, 0, Ops.CONST, 3, 9, 0, Ops.CALL_0, 0, 2, 3);
        Expect.same("run", desk.run(true, 600), 2);
        Expect.same("steps of seven rounds", desk.steps(), 49);
        for (int round = 0; round < 7; round++) {
            Expect.same("x0", desk.written(0, round), round == 0 ? 0 : 8);
            Expect.same("x1", desk.written(1, round), round == 0 ? 0 : 9);
            Expect.same("x2", desk.written(2, round), 0);
            Expect.same("x3", desk.written(3, round), 0);
        }
    }

    /** "its result is its x0 at its end" */
    private static void resultIsX0AtTheEnd() {
        ProgramSlices desk = Ops.built(
                Ops.CONST, 2, 4, 0, Ops.CONST, 3, 5, 0,
                Ops.CALL_1, 0, 2, 3, Ops.OUTPUT, 0, 0, 0,
                Ops.CALL_2, 1, 3, 2, Ops.OUTPUT, 0, 1, 0,
                Ops.CALL_3, 3, 3, 3, Ops.OUTPUT, 0, 3, 0, Ops.OUTPUT, 0, 2, 0,
                Ops.PROC, 0, 0, 0, Ops.PROC, 0, 0, 0, Ops.CONST, 0, 6, 0, Ops.CONST, 0, 7, 0,
                Ops.PROC, 0, 0, 0, Ops.CONST, 1, 8, 0, Ops.IF, 0, 2, 0, Ops.CONST, 0, 1, 0, Ops.END, 0, 0, 0);
        Expect.same("run", desk.run(true, 600), 0);
        Expect.same("of a procedure without instructions", desk.written(0, 0), 4);
        Expect.same("the last of two", desk.written(0, 1), 7);
        Expect.same("the argument, where nothing was done to it", desk.written(0, 2), 5);
        Expect.same("a variable of the caller", desk.written(0, 3), 4);
    }

    /** "Each instruction that is done but ELSE, END and PROC is a STEP" */
    private static void whatIsAStep() {
        int[] plain = {Ops.CONST, Ops.ADD, Ops.SUB, Ops.MUL, Ops.LESS, Ops.INPUT, Ops.LOAD, Ops.STORE, Ops.OUTPUT};
        for (int op : plain) {
            ProgramSlices desk = Ops.built(op, 0, 0, 0);
            Expect.same("op " + op + " without fuel", desk.run(true, 0), 2);
            Expect.same("its steps", desk.steps(), 0);
            Expect.same("op " + op, desk.run(true, 1), 0);
            Expect.same("its step", desk.steps(), 1);
        }
        ProgramSlices branch = branch();
        Expect.same("an IF and what is behind its ELSE", branch.run(true, 3), 0);
        Expect.same("steps of it", branch.steps(), 3);
        branch.input(0, 1);
        Expect.same("an IF, its ELSE and END", branch.run(true, 3), 0);
        Expect.same("steps of that", branch.steps(), 3);
        ProgramSlices call = Ops.built(Ops.CALL_1, 0, 0, 0, Ops.PROC, 0, 0, 0);
        Expect.same("a CALL", call.run(true, 1), 0);
        Expect.same("its one step", call.steps(), 1);
        Expect.same("a CALL without fuel", call.run(true, 0), 2);
        ProgramSlices proc = Ops.built(Ops.CONST, 0, 0, 0, Ops.PROC, 0, 0, 0, Ops.CONST, 0, 0, 0);
        Expect.same("a PROC", proc.run(true, 1), 0);
        Expect.same("only what is before it", proc.steps(), 1);
    }

    /** "(a DIV that HALTS too)" */
    private static void haltIsAStep() {
        ProgramSlices desk = Ops.built(Ops.DIV, 0, 0, 0);
        Expect.same("a DIV by 0 with fuel 1", desk.run(true, 1), 1);
        Expect.same("its step", desk.steps(), 1);
        Expect.same("a DIV by 0 beyond the fuel", desk.run(true, 0), 2);
        Expect.same("no step", desk.steps(), 0);
    }

    /** "TIRED, and ends before that, when an instruction is to be a step beyond the fuel" */
    private static void tiredBeyondTheFuel() {
        ProgramSlices desk = Ops.built(
                Ops.OUTPUT, 0, 0, 0, Ops.OUTPUT, 0, 0, 0, Ops.OUTPUT, 0, 0, 0, Ops.IF, 0, 1, 0, Ops.END, 0, 0, 0);
        for (int fuel = 0; fuel <= 5; fuel++) {
            Expect.same("fuel " + fuel, desk.run(true, fuel), fuel < 4 ? 2 : 0);
            Expect.same("steps with fuel " + fuel, desk.steps(), Math.min(fuel, 4));
            Expect.same("written with fuel " + fuel, desk.written(0, -1), Math.min(fuel, 3));
        }
        ProgramSlices long600 = Ops.built(
                Ops.CONST, 0, 298, 0, Ops.CONST, 1, 1, 0, Ops.WHILE, 0, 0, 0, Ops.SUB, 0, 0, 1, Ops.END, 0, 0, 0,
                Ops.OUTPUT, 0, 0, 0);
        Expect.same("600 steps with a fuel of 600", long600.run(true, 600), 0);
        Expect.same("its steps", long600.steps(), 600);
        Expect.same("600 steps with a fuel of 599", long600.run(true, 599), 2);
        Expect.same("599 steps", long600.steps(), 599);
        Expect.same("the last was not done", long600.written(0, -1), 0);
        ProgramSlices back = Ops.built(
                Ops.CALL_1, 0, 0, 0, Ops.PROC, 0, 0, 0, Ops.OUTPUT, 0, 0, 0, Ops.IF, 0, 2, 0, Ops.END, 0, 0, 0);
        Expect.same("what is no step needs no fuel", back.run(true, 3), 0);
        Expect.same("tired inside a procedure", back.run(true, 2), 2);
        Expect.same("what that wrote stays", back.written(0, -1), 1);
    }

    /** A procedure 1 that calls itself x0 times more, with an OUTPUT at the bottom of it. */
    private static ProgramSlices deep(int under) {
        ProgramSlices desk = Ops.built(
                Ops.INPUT, 0, 0, 0, Ops.CALL_1, 0, 0, 0, Ops.PROC, 0, 0, 0,
                Ops.CONST, 1, 1, 0, Ops.SUB, 0, 0, 1, Ops.IF, 0, 0, 0, Ops.CALL_1, 0, 0, 0,
                Ops.ELSE, 0, 0, 0, Ops.OUTPUT, 0, 1, 0, Ops.END, 0, 0, 0);
        desk.input(0, under - 1);
        return desk;
    }

    /** "after the step was counted, when a CALL is to be done while 7 procedures .. are under way" */
    private static void tiredWhileSevenAreUnderWay() {
        for (int under = 2; under <= 9; under++) {
            ProgramSlices desk = deep(under);
            boolean tired = under > 7;
            int due = tired ? 2 + 6 * 4 : 2 + (under - 1) * 4;
            Expect.same(under + " under way", desk.run(true, 600), tired ? 2 : 0);
            Expect.same("steps of " + under, desk.steps(), due);
            Expect.same("written at the bottom of " + under, desk.written(0, -1), tired ? 0 : 1);
            Expect.same(under + " under way with just that fuel", desk.run(true, due), tired ? 2 : 0);
            Expect.same("steps again", desk.steps(), due);
            Expect.same(under + " under way with one less", desk.run(true, due - 1), 2);
            Expect.same("steps with one less", desk.steps(), due - 1);
        }
        ProgramSlices empty = Ops.built(
                Ops.OUTPUT, 0, 0, 0, Ops.CALL_1, 1, 0, 0, Ops.CALL_0, 2, 0, 0, Ops.PROC, 0, 0, 0);
        Expect.same("an empty procedure needs a place too", empty.run(true, 600), 2);
        Expect.same("its last CALL is a step", empty.steps(), 3 * 6 + 2);
        Expect.same("seven began", empty.written(0, -1), 7);
        ProgramSlices wide = new ProgramSlices();
        for (int i = 0; i < 31; i++) {
            wide.add(Ops.CALL_1, 0, 0, 0);
        }
        wide.add(Ops.PROC, 0, 0, 0);
        wide.build();
        Expect.same("those that ended are not under way", wide.run(true, 31), 0);
        wide.clear();
        Ops.fill(wide, Ops.CALL_0, 0, 0, 0);
        wide.build();
        wide.slice(0, false);
        Expect.same("a slice is tired too", wide.run(false, 600), 2);
        Expect.same("its seventh CALL is counted", wide.steps(), 7);
    }

    /** "(So with a fuel of 0 a procedure 0 without steps comes to its EXIT.)" */
    private static void fuelOfZero() {
        ProgramSlices none = Ops.built();
        Expect.same("no instruction", none.run(true, 0), 0);
        Expect.same("no step", none.steps(), 0);
        ProgramSlices proc = Ops.built(Ops.PROC, 0, 0, 0, Ops.OUTPUT, 0, 0, 0);
        Expect.same("PROC at once", proc.run(true, 0), 0);
        Expect.same("no step before PROC", proc.steps(), 0);
        Expect.same("nothing written", proc.written(0, -1), 0);
        ProgramSlices apart = Ops.built(Ops.OUTPUT, 0, 0, 0, Ops.PROC, 0, 0, 0, Ops.CONST, 0, 1, 0);
        Expect.same("a slice without procedure 0", apart.slice(2, false), 1);
        Expect.same("its run", apart.run(false, 0), 0);
        Expect.same("its steps", apart.steps(), 0);
        Expect.same("the whole has a step", apart.run(true, 0), 2);
        Expect.same("it was not done", apart.steps(), 0);
    }

    private static void depends(ProgramSlices desk, int... rows) {
        for (int i = 0; i + 2 < rows.length; i += 3) {
            String call = "depends(" + rows[i] + ", " + rows[i + 1] + ")";
            Expect.same(call, desk.depends(rows[i], rows[i + 1]), rows[i + 2]);
        }
    }

    /** "from IF to the next one and to the one behind its ELSE, or to its END if it has none" */
    private static void waysOfIf() {
        ProgramSlices bare = Ops.built(
                Ops.CONST, 2, 1, 0, Ops.IF, 0, 0, 0, Ops.CONST, 2, 2, 0, Ops.END, 0, 0, 0, Ops.OUTPUT, 0, 2, 0);
        depends(bare, 4, 0, 2, 4, 2, 2);
        ProgramSlices both = Ops.built(
                Ops.CONST, 2, 1, 0, Ops.IF, 0, 0, 0, Ops.CONST, 2, 2, 0, Ops.ELSE, 0, 0, 0, Ops.CONST, 2, 3, 0,
                Ops.END, 0, 0, 0, Ops.OUTPUT, 0, 2, 0);
        depends(both, 6, 0, 0, 6, 2, 2, 6, 4, 2);
        ProgramSlices left = Ops.built(
                Ops.CONST, 2, 1, 0, Ops.IF, 0, 0, 0, Ops.ELSE, 0, 0, 0, Ops.CONST, 2, 3, 0, Ops.END, 0, 0, 0,
                Ops.OUTPUT, 0, 2, 0);
        depends(left, 5, 0, 2, 5, 3, 2);
        ProgramSlices right = Ops.built(
                Ops.CONST, 2, 1, 0, Ops.IF, 0, 0, 0, Ops.CONST, 2, 3, 0, Ops.ELSE, 0, 0, 0, Ops.END, 0, 0, 0,
                Ops.OUTPUT, 0, 2, 0);
        depends(right, 5, 0, 2, 5, 2, 2);
    }

    /** "from ELSE to its END": what is before ELSE does not come to what is behind it. */
    private static void waysOfElse() {
        ProgramSlices desk = Ops.built(
                Ops.IF, 0, 0, 0, Ops.DIV, 2, 1, 1, Ops.STORE, 0, 2, 2, Ops.ELSE, 0, 0, 0, Ops.OUTPUT, 0, 2, 0,
                Ops.LOAD, 1, 2, 0, Ops.END, 0, 0, 0, Ops.LOAD, 1, 2, 0);
        depends(desk, 4, 1, 0, 5, 1, 0, 5, 2, 0, 2, 1, 10, 7, 1, 10, 7, 2, 4, 4, 0, 1, 5, 0, 1, 7, 0, 0);
        ProgramSlices around = Ops.built(
                Ops.WHILE, 0, 0, 0, Ops.IF, 0, 0, 0, Ops.DIV, 2, 1, 1, Ops.ELSE, 0, 0, 0, Ops.OUTPUT, 0, 2, 0,
                Ops.END, 0, 0, 0, Ops.END, 0, 0, 0);
        depends(around, 4, 2, 10, 2, 2, 8, 0, 2, 8, 1, 2, 8);
    }

    /** "from WHILE to the next one and to the one behind its END; from the END of a WHILE to that WHILE" */
    private static void waysOfWhile() {
        ProgramSlices desk = Ops.built(
                Ops.CONST, 2, 1, 0, Ops.WHILE, 0, 2, 0, Ops.OUTPUT, 0, 2, 0, Ops.CONST, 2, 2, 0, Ops.END, 0, 0, 0,
                Ops.OUTPUT, 0, 2, 0);
        depends(desk, 1, 0, 2, 1, 3, 2, 2, 0, 2, 2, 3, 2, 5, 0, 2, 5, 3, 2, 2, 1, 1, 3, 1, 1, 5, 1, 0, 1, 1, 0);
        ProgramSlices two = Ops.built(
                Ops.WHILE, 0, 0, 0, Ops.WHILE, 0, 1, 0, Ops.DIV, 0, 1, 1, Ops.END, 0, 0, 0, Ops.CONST, 1, 0, 0,
                Ops.END, 0, 0, 0, Ops.WHILE, 0, 0, 0, Ops.END, 0, 0, 0);
        depends(two, 0, 2, 10, 1, 2, 8, 1, 4, 2, 2, 4, 2, 2, 2, 8, 4, 2, 8, 6, 2, 10, 1, 0, 1, 2, 1, 1, 4, 0, 1);
        depends(two, 2, 0, 0, 2, 6, 0, 0, 6, 0);
    }

    /** "Behind the last one of a procedure (before PROC) is its EXIT." */
    private static void waysStayInTheProcedure() {
        ProgramSlices desk = Ops.built(
                Ops.CONST, 2, 1, 0, Ops.DIV, 3, 2, 2, Ops.STORE, 0, 2, 2, Ops.CALL_1, 0, 0, 0, Ops.PROC, 0, 0, 0,
                Ops.OUTPUT, 0, 2, 0, Ops.LOAD, 1, 2, 0, Ops.CALL_0, 0, 0, 0);
        for (int n = 5; n <= 7; n++) {
            for (int m = 0; m <= 4; m++) {
                depends(desk, n, m, 0, m, n, 0);
            }
        }
        ProgramSlices end = Ops.built(
                Ops.IF, 0, 0, 0, Ops.CONST, 2, 1, 0, Ops.END, 0, 0, 0, Ops.PROC, 0, 0, 0, Ops.WHILE, 0, 2, 0,
                Ops.CONST, 2, 0, 0, Ops.END, 0, 0, 0, Ops.PROC, 0, 0, 0, Ops.OUTPUT, 0, 2, 0);
        depends(end, 4, 1, 0, 4, 5, 2, 8, 5, 0, 8, 1, 0);
    }

    /** "m is REACHED from n when there is a way of one step or more from n to m" */
    private static void reachedByOneStepOrMore() {
        ProgramSlices line = Ops.built(Ops.DIV, 0, 1, 1, Ops.CALL_1, 0, 0, 0, Ops.CONST, 3, 0, 0, Ops.PROC, 0, 0, 0);
        depends(line, 0, 0, 0, 1, 1, 0, 1, 0, 10, 2, 0, 8, 2, 1, 8, 0, 1, 0);
        ProgramSlices loop = Ops.built(
                Ops.WHILE, 0, 2, 0, Ops.DIV, 0, 1, 1, Ops.CALL_1, 3, 2, 2, Ops.END, 0, 0, 0, Ops.PROC, 0, 0, 0);
        depends(loop, 1, 1, 8, 2, 2, 12, 1, 2, 8, 2, 1, 8, 0, 1, 8, 0, 2, 8);
    }

    /** "with no definition of x strictly between" */
    private static void definitionsReach() {
        ProgramSlices desk = Ops.built(
                Ops.CONST, 0, 1, 0, Ops.ADD, 0, 0, 0, Ops.ADD, 0, 0, 0, Ops.OUTPUT, 0, 0, 0, Ops.OUTPUT, 0, 0, 0,
                Ops.STORE, 0, 0, 0, Ops.IF, 0, 0, 0, Ops.END, 0, 0, 0, Ops.OUTPUT, 0, 0, 0);
        depends(desk, 1, 0, 2, 2, 1, 2, 2, 0, 0, 3, 2, 2, 3, 1, 0, 4, 2, 2, 5, 2, 2, 6, 2, 2, 8, 2, 2, 8, 1, 0);
        int[] definers = {
            Ops.CONST, Ops.ADD, Ops.SUB, Ops.MUL, Ops.LESS, Ops.DIV, Ops.INPUT, Ops.LOAD,
            Ops.CALL_0, Ops.CALL_1, Ops.CALL_2, Ops.CALL_3
        };
        for (int op : definers) {
            ProgramSlices one = Ops.built(
                    Ops.CONST, 3, 1, 0, op, 3, 0, 0, Ops.OUTPUT, 0, 3, 0,
                    Ops.PROC, 0, 0, 0, Ops.PROC, 0, 0, 0, Ops.PROC, 0, 0, 0);
            Expect.same("op " + op + " defines xd", one.depends(2, 1) & 2, 2);
            Expect.same("no other reaches behind op " + op, one.depends(2, 0) & 2, 0);
        }
        for (int op : new int[] {Ops.STORE, Ops.OUTPUT}) {
            ProgramSlices one = Ops.built(Ops.CONST, 3, 1, 0, op, 3, 3, 0, Ops.OUTPUT, 0, 3, 0);
            Expect.same("op " + op + " defines nothing", one.depends(2, 1), 0);
            Expect.same("what was before reaches behind op " + op, one.depends(2, 0), 2);
        }
    }

    private static void definitionReachesItself() {
        ProgramSlices line = Ops.built(Ops.ADD, 3, 3, 3);
        depends(line, 0, 0, 0);
        ProgramSlices loop = Ops.built(
                Ops.WHILE, 0, 0, 0, Ops.ADD, 3, 3, 3, Ops.CALL_1, 2, 2, 2, Ops.END, 0, 0, 0, Ops.PROC, 0, 0, 0);
        depends(loop, 1, 1, 2, 2, 2, 14);
        ProgramSlices other = Ops.built(
                Ops.WHILE, 0, 0, 0, Ops.ADD, 3, 3, 3, Ops.CONST, 3, 1, 0, Ops.END, 0, 0, 0);
        depends(other, 1, 1, 0, 1, 2, 2);
    }

    /** The nine summaries of a CALL, by to and then by of. */
    private static void summaries(String what, ProgramSlices desk, int call, String due) {
        for (int k = 0; k < 9; k++) {
            Expect.same(what + ", " + k / 3 + " on " + k % 3, desk.summary(call, k / 3, k % 3), due.charAt(k) == '1');
        }
    }

    /** A summary of procedure 1 tells whether the value of the BEGINNING came through. */
    private static void ofProcedure(String what, String due, int... numbers) {
        ProgramSlices desk = new ProgramSlices();
        Ops.fill(desk, Ops.CALL_1, 2, 0, 1, Ops.PROC, 0, 0, 0);
        Ops.fill(desk, numbers);
        Expect.same("build of " + what, desk.build(), 0);
        summaries(what, desk, 0, due);
    }

    /** "there is a way from its first instruction .. to m (or that is m) with no definition of x before m" */
    private static void beginningReachesTheFirst() {
        ofProcedure("the first instruction reads x1 and defines it", "010000000",
                Ops.ADD, 1, 1, 1, Ops.ADD, 0, 1, 1);
        ofProcedure("the first instruction is the definition that reads", "110000000", Ops.ADD, 0, 0, 1);
        ofProcedure("a WHILE is the first", "110000000",
                Ops.WHILE, 0, 1, 0, Ops.CONST, 1, 0, 0, Ops.CONST, 0, 4, 0, Ops.END, 0, 0, 0);
        ofProcedure("the first defines x1", "000000000", Ops.CONST, 1, 3, 0, Ops.ADD, 0, 1, 1);
        ofProcedure("one way without a definition", "110000000",
                Ops.IF, 0, 0, 0, Ops.CONST, 1, 3, 0, Ops.END, 0, 0, 0, Ops.ADD, 0, 1, 1);
        ofProcedure("no way without a definition", "100000000",
                Ops.IF, 0, 0, 0, Ops.CONST, 1, 3, 0, Ops.ELSE, 0, 0, 0, Ops.CONST, 1, 4, 0, Ops.END, 0, 0, 0,
                Ops.ADD, 0, 1, 1);
    }

    /** "(its EXIT, when it has none)" */
    private static void beginningReachesTheExit() {
        ofProcedure("the last procedure is empty", "100000000");
        ofProcedure("an empty one before PROC", "100000000", Ops.PROC, 0, 0, 0, Ops.CONST, 0, 1, 0);
        ofProcedure("one with nothing done to x0", "100000000", Ops.CONST, 2, 1, 0);
        ofProcedure("one that defines x0", "000000000", Ops.CONST, 0, 1, 0);
        ofProcedure("one that defines x0 in a loop", "110000000",
                Ops.WHILE, 0, 1, 0, Ops.INPUT, 0, 1, 0, Ops.END, 0, 0, 0);
        ProgramSlices zero = Ops.built(Ops.PROC, 0, 0, 0, Ops.CALL_0, 0, 0, 1);
        summaries("an empty procedure 0", zero, 1, "100000000");
        ProgramSlices full = new ProgramSlices();
        for (int i = 0; i < 28; i++) {
            full.add(Ops.CONST, 3, i, 0);
        }
        Ops.fill(full, Ops.CALL_3, 0, 1, 2, Ops.PROC, 0, 0, 0, Ops.PROC, 0, 0, 0, Ops.PROC, 0, 0, 0);
        Expect.same("build", full.build(), 0);
        summaries("an empty procedure behind 32", full, 28, "100000000");
    }

    /** "on PARAM 0 (for x0) or PARAM 1 (for x1)": x2 and x3 have none. */
    private static void onlyTwoParams() {
        ofProcedure("x2 and x3 at the BEGINNING", "000000000", Ops.ADD, 0, 2, 3);
        ofProcedure("x1 at the BEGINNING", "010000000", Ops.ADD, 0, 2, 1);
        ofProcedure("x0 at the BEGINNING", "100000000", Ops.ADD, 0, 0, 3);
    }

    /** "NODES: every instruction but ELSE, END, PROC" */
    private static void elseEndProcAreNoNodes() {
        ProgramSlices desk = Ops.built(
                Ops.DIV, 0, 1, 1, Ops.IF, 0, 0, 0, Ops.OUTPUT, 0, 0, 0, Ops.ELSE, 0, 0, 0, Ops.END, 0, 0, 0,
                Ops.WHILE, 0, 0, 0, Ops.END, 0, 0, 0, Ops.PROC, 0, 0, 0, Ops.CONST, 0, 0, 0);
        for (int none : new int[] {3, 4, 6, 7}) {
            Expect.same("slice(" + none + ", false)", desk.slice(none, false), -1);
            Expect.same("slice(" + none + ", true)", desk.slice(none, true), -1);
            for (int i = 0; i < 9; i++) {
                depends(desk, none, i, 0, i, none, 0);
            }
        }
        Expect.same("forward of the DIV", desk.slice(0, true), 4);
        Expect.same("its instructions", Ops.mask(desk), Ops.of(0, 1, 2, 5));
    }

    /** "on the innermost IF or WHILE that is OPEN around it, on ENTRY if there is none" */
    private static void controlAtTheEdges() {
        ProgramSlices desk = Ops.built(
                Ops.IF, 0, 0, 0, Ops.WHILE, 0, 0, 0, Ops.IF, 0, 0, 0, Ops.WHILE, 0, 0, 0, Ops.CONST, 1, 1, 0,
                Ops.END, 0, 0, 0, Ops.CONST, 1, 1, 0, Ops.END, 0, 0, 0, Ops.CONST, 1, 1, 0, Ops.END, 0, 0, 0,
                Ops.CONST, 1, 1, 0, Ops.ELSE, 0, 0, 0, Ops.CONST, 1, 1, 0, Ops.END, 0, 0, 0, Ops.CONST, 1, 1, 0);
        int[] inner = {-1, 0, 1, 2, 3, -1, 2, -1, 1, -1, 0, -1, 0, -1, -1};
        for (int n = 0; n < inner.length; n++) {
            for (int m = 0; m < inner.length; m++) {
                Expect.same("control of " + n + " on " + m, desk.depends(n, m), m == inner[n] ? 1 : 0);
            }
        }
        ProgramSlices called = Ops.built(
                Ops.IF, 0, 0, 0, Ops.CALL_1, 0, 0, 0, Ops.END, 0, 0, 0, Ops.PROC, 0, 0, 0, Ops.CONST, 1, 1, 0,
                Ops.IF, 0, 2, 0, Ops.CONST, 1, 2, 0, Ops.END, 0, 0, 0);
        Expect.same("ENTRY leads to the CALL", called.slice(4, false), 3);
        Expect.same("its instructions", Ops.mask(called), Ops.of(0, 1, 4));
        Expect.same("so does an IF", called.slice(6, false), 4);
        Expect.same("the IF's slice", Ops.mask(called), Ops.of(0, 1, 5, 6));
    }

    private static void heapAtTheEdges() {
        ProgramSlices desk = Ops.built(
                Ops.LOAD, 0, 1, 0, Ops.STORE, 0, 2, 0, Ops.CALL_1, 3, 2, 2, Ops.LOAD, 0, 1, 0, Ops.STORE, 0, 2, 0,
                Ops.PROC, 0, 0, 0);
        depends(desk, 0, 1, 0, 0, 2, 0, 0, 4, 0, 2, 1, 4, 2, 2, 0, 2, 4, 0, 3, 1, 4, 3, 2, 12, 3, 4, 0, 1, 1, 0);
        depends(desk, 4, 1, 0, 4, 2, 8, 1, 2, 0);
        ofProcedure("a LOAD before every STORE reads HEAPIN", "001010000",
                Ops.LOAD, 0, 2, 0, Ops.STORE, 0, 2, 1);
        ofProcedure("a LOAD behind a STORE reads HEAPIN too", "011010000",
                Ops.STORE, 0, 2, 1, Ops.LOAD, 0, 2, 0);
        ofProcedure("HEAPOUT has every STORE, even one that is written over", "000110000",
                Ops.STORE, 0, 2, 0, Ops.STORE, 0, 2, 1, Ops.CONST, 0, 1, 0);
        ofProcedure("without a STORE or a CALL nothing leads from HEAPOUT", "001000000", Ops.LOAD, 0, 2, 0);
    }

    private static void haltAtTheEdges() {
        ofProcedure("STOP has every DIV, the last one too", "100000110",
                Ops.DIV, 2, 2, 0, Ops.DIV, 2, 2, 1);
        ofProcedure("without a DIV or a CALL nothing leads from STOP", "100000000", Ops.MUL, 2, 0, 1);
        ofProcedure("a DIV in a branch, and what is behind it", "110000110",
                Ops.IF, 0, 1, 0, Ops.DIV, 2, 2, 0, Ops.END, 0, 0, 0, Ops.INPUT, 0, 0, 0);
        ofProcedure("a DIV behind the last that defines x0", "000000110",
                Ops.IF, 0, 1, 0, Ops.ADD, 2, 0, 2, Ops.END, 0, 0, 0, Ops.INPUT, 0, 0, 0, Ops.DIV, 3, 3, 2);
    }

    private static void summaryOfEmptyProcedures() {
        ProgramSlices desk = Ops.built(
                Ops.CALL_1, 2, 0, 1, Ops.CALL_2, 2, 0, 1, Ops.CALL_3, 2, 0, 1,
                Ops.PROC, 0, 0, 0, Ops.PROC, 0, 0, 0, Ops.PROC, 0, 0, 0);
        for (int call = 0; call < 3; call++) {
            summaries("empty procedure " + (call + 1), desk, call, "100000000");
        }
    }

    /** "(and itself)" */
    private static void sliceOfANodeAlone() {
        ProgramSlices desk = Ops.built(Ops.CONST, 0, 1, 0, Ops.PROC, 0, 0, 0, Ops.CALL_1, 3, 3, 3);
        for (int k = 0; k < 4; k++) {
            Expect.same("a node alone", desk.slice(0, k > 1), 1);
            Expect.same("itself", Ops.mask(desk), Ops.of(0));
        }
        Expect.same("a CALL that only itself calls", desk.slice(2, false), 1);
        Expect.same("that CALL", Ops.mask(desk), Ops.of(2));
        Expect.same("forward of it", desk.slice(2, true), 1);
    }

    /** FIT: a CALL that is not in the slice gets nothing, nor an ARG whose PARAM is not in it. */
    private static void fitNeedsTheCall() {
        ProgramSlices desk = Ops.built(
                Ops.INPUT, 0, 0, 0, Ops.INPUT, 1, 1, 0, Ops.CALL_1, 2, 0, 1, Ops.INPUT, 3, 2, 0,
                Ops.CALL_1, 0, 3, 3, Ops.OUTPUT, 0, 2, 0, Ops.PROC, 0, 0, 0, Ops.ADD, 0, 0, 2,
                Ops.OUTPUT, 1, 1, 0);
        Expect.same("slice of the OUTPUT", desk.slice(5, false), 5);
        Expect.same("its instructions", Ops.mask(desk), Ops.of(0, 2, 4, 5, 7));
        Expect.same("fit", desk.fit(), 6);
        Expect.same("ARG 0 of the other CALL, no ARG 1", Ops.mask(desk), Ops.of(0, 2, 3, 4, 5, 7));
        Expect.same("fit again", desk.fit(), 6);
        Expect.same("nothing more", Ops.mask(desk), Ops.of(0, 2, 3, 4, 5, 7));
        Expect.same("slice with a CALL that may stop, but none of its PARAMs", desk.slice(3, false), 2);
        Expect.same("its instructions", Ops.mask(desk), Ops.of(2, 3));
        Expect.same("fit of it", desk.fit(), 2);
        Expect.same("slice without a CALL", desk.slice(1, false), 1);
        Expect.same("fit of that", desk.fit(), 1);
    }

    /** "what stands in an IF or WHILE that is not in it is passed over" */
    private static void passedOver() {
        ProgramSlices desk = Ops.built(
                Ops.INPUT, 0, 0, 0, Ops.WHILE, 0, 0, 0, Ops.IF, 0, 0, 0, Ops.OUTPUT, 1, 0, 0, Ops.ELSE, 0, 0, 0,
                Ops.OUTPUT, 2, 1, 0, Ops.END, 0, 0, 0, Ops.END, 0, 0, 0, Ops.CONST, 3, 7, 0);
        for (int x = 0; x < 2; x++) {
            desk.input(0, x);
            Expect.same("slice of the last", desk.slice(8, false), 1);
            Expect.same("run of it", desk.run(false, 1), 0);
            Expect.same("its one step", desk.steps(), 1);
            Expect.same("its value", desk.seen(0), 7);
            Expect.same("slice inside the IF", desk.slice(5, false), 4);
            Expect.same("run of that", desk.run(false, 30), x == 0 ? 0 : 2);
            Expect.same("steps of that", desk.steps(), x == 0 ? 2 : 30);
            Expect.same("nothing before the ELSE", desk.written(1, -1), 0);
            Expect.same("nor behind it", desk.written(2, -1), 0);
        }
        ProgramSlices call = Ops.built(
                Ops.INPUT, 0, 0, 0, Ops.CALL_1, 1, 0, 0, Ops.CALL_1, 2, 1, 1, Ops.OUTPUT, 0, 2, 0,
                Ops.PROC, 0, 0, 0, Ops.OUTPUT, 1, 0, 0, Ops.CONST, 3, 1, 0);
        call.input(0, 6);
        Expect.same("slice in a procedure", call.slice(6, false), 3);
        Expect.same("its instructions", Ops.mask(call), Ops.of(1, 2, 6));
        Expect.same("run of it", call.run(false, 4), 0);
        Expect.same("both CALLs were done", call.seen(-1), 2);
        Expect.same("slice of an OUTPUT there", call.slice(5, false), 4);
        Expect.same("run of that", call.run(false, 5), 0);
        Expect.same("the first CALL's argument", call.written(1, 0), 6);
        Expect.same("the result is set, so it is the second's argument", call.written(1, 1), 6);
    }

    /** "a CALL with xa, xb as they are": what sets the second CALL's argument is not in the slice. */
    private static void argumentsAsTheyAre() {
        ProgramSlices desk = Ops.built(
                Ops.INPUT, 0, 0, 0, Ops.CONST, 1, 5, 0, Ops.CALL_1, 2, 1, 1, Ops.CALL_1, 3, 0, 0, Ops.OUTPUT, 0, 3, 0,
                Ops.PROC, 0, 0, 0, Ops.CONST, 1, 1, 0, Ops.WHILE, 0, 0, 0, Ops.SUB, 0, 0, 1, Ops.END, 0, 0, 0);
        desk.input(0, 3);
        Expect.same("slice", desk.slice(4, false), 7);
        Expect.same("its instructions", Ops.mask(desk), Ops.of(0, 2, 3, 4, 6, 7, 8));
        Expect.same("run", desk.run(false, 600), 0);
        Expect.same("the first CALL has 0, as x1 is", desk.steps(), 1 + 3 + 9 + 1);
        Expect.same("fit", desk.fit(), 8);
        Expect.same("run of the fit one", desk.run(false, 600), 0);
        Expect.same("the first CALL has 5", desk.steps(), 2 + 13 + 9 + 1);
    }

    /** "xd becomes its result, whether its VALUE is in it or not" */
    private static void resultWithoutValue() {
        ProgramSlices desk = Ops.built(
                Ops.INPUT, 0, 0, 0, Ops.CALL_2, 1, 0, 0, Ops.CALL_1, 2, 1, 1, Ops.CALL_1, 3, 0, 0,
                Ops.OUTPUT, 0, 3, 0, Ops.PROC, 0, 0, 0, Ops.CONST, 1, 1, 0, Ops.WHILE, 0, 0, 0, Ops.SUB, 0, 0, 1,
                Ops.END, 0, 0, 0, Ops.PROC, 0, 0, 0);
        desk.input(0, 3);
        Expect.same("slice", desk.slice(4, false), 8);
        Expect.same("its instructions", Ops.mask(desk), Ops.of(0, 1, 2, 3, 4, 6, 7, 8));
        Expect.same("run", desk.run(false, 600), 0);
        Expect.same("the second CALL has the first one's result", desk.steps(), 2 + 9 + 9 + 1);
        ProgramSlices first = Ops.built(
                Ops.CALL_1, 2, 0, 0, Ops.OUTPUT, 0, 2, 0, Ops.PROC, 0, 0, 0, Ops.CONST, 0, 6, 0);
        Expect.same("slice with a CALL at 0", first.slice(1, false), 3);
        Expect.same("run of it", first.run(false, 600), 0);
        Expect.same("the result of the CALL at 0", first.seen(0), 6);
    }

    /** "LEVELS 0 .. n - 1 (n is 1 at first)"; "Inputs and channels have a level each, 0 at first." */
    private static void oneLevelAtFirst() {
        ProgramSlices desk = Ops.built(Ops.INPUT, 0, 0, 0, Ops.OUTPUT, 0, 0, 0, Ops.DIV, 0, 0, 0);
        Expect.same("lattice of one", desk.lattice(), 0);
        Expect.same("check of one", desk.check(), 0);
        Expect.same("below(0, 0)", desk.below(0, 0), true);
        Expect.same("below(0, 1)", desk.below(0, 1), false);
        Expect.same("below(1, 0)", desk.below(1, 0), false);
        for (int k = 0; k < 4; k++) {
            Expect.same("label to 0", desk.label(true, k, 0) && desk.label(false, k, 0), true);
            Expect.same("label to 1", desk.label(true, k, 1) || desk.label(false, k, 1), false);
        }
        Expect.same("lattice then", desk.lattice(), 0);
        Expect.same("check then", desk.check(), 0);
    }

    private static ProgramSlices order(int n, int... pairs) {
        ProgramSlices desk = new ProgramSlices();
        desk.levels(n);
        for (int i = 0; i + 1 < pairs.length; i += 2) {
            desk.below(pairs[i], pairs[i + 1]);
        }
        return desk;
    }

    /** "a is BELOW b when that was told, when a is b, and through others" and what a LATTICE is. */
    private static void latticeAtTheEdges() {
        Expect.same("one level", order(1).lattice(), 0);
        Expect.same("one level told of itself", order(1, 0, 0).lattice(), 0);
        Expect.same("two levels without an order", order(2).lattice(), 2);
        Expect.same("two levels told of themselves", order(2, 0, 0, 1, 1).lattice(), 2);
        Expect.same("two levels", order(2, 1, 0).lattice(), 0);
        Expect.same("two levels told twice", order(2, 1, 0, 1, 0).lattice(), 0);
        Expect.same("two levels both ways", order(2, 1, 0, 0, 1).lattice(), 1);
        Expect.same("a circle through all five", order(5, 0, 1, 1, 2, 2, 3, 3, 4, 4, 0).lattice(), 1);
        Expect.same("a chain of five", order(5, 4, 3, 2, 1, 3, 2, 1, 0).lattice(), 0);
        Expect.same("three with a common top and no bottom", order(4, 0, 3, 1, 3, 2, 3).lattice(), 3);
        Expect.same("three with a common bottom and no top", order(4, 3, 0, 3, 1, 3, 2).lattice(), 2);
        Expect.same("a least one that is one of the two", order(3, 0, 1, 0, 2, 1, 2).lattice(), 0);
        Expect.same("two above both, neither below the other", order(4, 0, 2, 0, 3, 1, 2, 1, 3).lattice(), 2);
        Expect.same("two above both and one above those", order(5, 0, 2, 0, 3, 1, 2, 1, 3, 2, 4, 3, 4).lattice(), 2);
        Expect.same("a circle above two", order(4, 0, 2, 1, 2, 2, 3, 3, 2).lattice(), 1);
    }

    /** "while the level of its input is not below the sink's": a level is below itself. */
    private static void sinksAtTheEdges() {
        for (int input = 0; input < 3; input++) {
            for (int channel = 0; channel < 3; channel++) {
                ProgramSlices desk = Ops.built(Ops.INPUT, 1, 2, 0, Ops.OUTPUT, 3, 1, 0, Ops.DIV, 0, 0, 1);
                desk.levels(3);
                desk.below(1, 2);
                desk.below(2, 0);
                desk.label(false, 2, input);
                desk.label(true, 3, channel);
                int[] height = {2, 0, 1};
                int out = height[input] > height[channel] ? 1 : 0;
                int halt = height[input] > 0 ? 1 : 0;
                Expect.same("flows of " + input + " to " + channel, desk.check(), out + halt);
                Expect.same("the first", desk.flow(0), out == 1 ? 1 : halt == 1 ? 2 : -1);
                Expect.same("the second", desk.flow(1), out + halt == 2 ? 2 : -1);
                Expect.same("no third", desk.flow(2), -1);
            }
        }
        ProgramSlices none = Ops.built(Ops.OUTPUT, 0, 0, 0, Ops.DIV, 0, 0, 0);
        none.levels(2);
        none.below(0, 1);
        Expect.same("no INPUT, no flow", none.check(), 0);
        ProgramSlices noSink = Ops.built(Ops.INPUT, 0, 0, 0, Ops.STORE, 0, 0, 0);
        noSink.levels(2);
        noSink.below(0, 1);
        noSink.label(false, 0, 1);
        Expect.same("no sink, no flow", noSink.check(), 0);
    }
}
