/** The edges that the twenty promises name, each under its promise; RefusedTest has the refusals. */
public final class PromisesTest {
    private static final int MIN = Integer.MIN_VALUE;
    private static final int MAX = Integer.MAX_VALUE;

    public static void main(String[] args) {
        promise1();
        promise2();
        promise3();
        nothingIsLeftOfTheProgramBefore();
        promise4();
        promise4FirstThatCannotStand();
        promise4MayGoOn();
        promise5();
        promise6();
        promise7();
        promise8();
        promise9();
        promise10();
        promise11();
        promise11OfProcedure0();
        promise12();
        promise12OnlyWhatIsInIt();
        promise12InTheOrderOfTheCalls();
        promise12AtTheFirst();
        promise12ForTheHeap();
        promise13();
        promise14();
        promise15();
        promise16();
        promise17();
        promise17OfEachOp();
        promise18();
        promise19();
        promise20();
        lastOf512Calls();
        Expect.finish();
    }

    private static ProgramSlices two(ProgramSlices desk) {
        desk.levels(2);
        desk.below(0, 1);
        return desk;
    }

    private static void slice(ProgramSlices desk, int i, boolean forward, int... due) {
        Expect.same("slice(" + i + ", " + forward + ")", desk.slice(i, forward), due.length);
        Expect.same("instructions of slice(" + i + ", " + forward + ")", Ops.mask(desk), Ops.of(due));
    }

    private static void fit(ProgramSlices desk, int... due) {
        Expect.same("fit()", desk.fit(), due.length);
        Expect.same("instructions of fit()", Ops.mask(desk), Ops.of(due));
    }

    private static void noRun(String when, ProgramSlices desk) {
        Expect.same(when + ": steps()", desk.steps(), -1);
        Expect.same(when + ": seen(-1)", desk.seen(-1), 0);
        Expect.same(when + ": seen(0)", desk.seen(0), 0);
        for (int channel = 0; channel < 4; channel++) {
            Expect.same(when + ": written(" + channel + ", -1)", desk.written(channel, -1), 0);
            Expect.same(when + ": written(" + channel + ", 0)", desk.written(channel, 0), 0);
        }
    }

    private static void noSlice(String when, ProgramSlices desk) {
        Expect.same(when + ": sliced", Ops.mask(desk), 0);
        Expect.same(when + ": fit()", desk.fit(), -1);
        Expect.same(when + ": run(false, 5)", desk.run(false, 5), -1);
        Expect.same(when + ": seen(-1)", desk.seen(-1), 0);
    }

    private static void notBuilt(String when, ProgramSlices desk) {
        Expect.same(when + ": depends(1, 0)", desk.depends(1, 0), 0);
        Expect.same(when + ": summary(0, 0, 0)", desk.summary(0, 0, 0), false);
        Expect.same(when + ": slice(0, false)", desk.slice(0, false), -1);
        Expect.same(when + ": slice(0, true)", desk.slice(0, true), -1);
        Expect.same(when + ": run(true, 0)", desk.run(true, 0), -1);
        Expect.same(when + ": run(true, 600)", desk.run(true, 600), -1);
        Expect.same(when + ": check()", desk.check(), -1);
        Expect.same(when + ": flow(0)", desk.flow(0), -1);
        noSlice(when, desk);
        noRun(when, desk);
    }

    /** "No instructions, one level, all inputs 0." */
    private static void promise1() {
        ProgramSlices desk = new ProgramSlices();
        notBuilt("new", desk);
        Expect.same("the first add", desk.add(Ops.CONST, 0, 0, 0), 0);
        ProgramSlices empty = new ProgramSlices();
        Expect.same("build of no instructions", empty.build(), 0);
        Expect.same("slice of no instructions", empty.slice(0, false), -1);
        Expect.same("depends of no instructions", empty.depends(0, 0), 0);
        Expect.same("run of no instructions", empty.run(true, 0), 0);
        Expect.same("steps of no instructions", empty.steps(), 0);
        Expect.same("check of no instructions", empty.check(), 0);
        Expect.same("flow of no instructions", empty.flow(0), -1);
        ProgramSlices levels = new ProgramSlices();
        Expect.same("level 0 is there", levels.label(true, 3, 0), true);
        Expect.same("level 1 is not there", levels.label(true, 3, 1), false);
        for (int k = 0; k < 4; k++) {
            ProgramSlices input = Ops.built(Ops.CONST, 0, 9, 0, Ops.INPUT, 0, k, 0, Ops.OUTPUT, 0, 0, 0);
            input.run(true, 3);
            Expect.same("input " + k + " is read", input.written(0, -1), 1);
            Expect.same("input " + k + " is 0", input.written(0, 0), 0);
        }
        Expect.same("another object has its own state", new ProgramSlices().add(Ops.CONST, 0, 0, 0), 0);
    }

    /** "-1 (refused) when .. op is not 0 .. 18, or one of the variables, the input or the channel .. not 0 .. 3" */
    private static void promise2() {
        ProgramSlices desk = new ProgramSlices();
        int next = 0;
        for (int op = 0; op <= 18; op++) {
            Expect.same("op " + op + " with 0", desk.add(op, 0, 0, 0), next);
            next++;
        }
        desk.clear();
        next = 0;
        for (int op = 0; op <= 18; op++) {
            Expect.same("op " + op + " with 3", desk.add(op, 3, 3, 3), next);
            next++;
        }
        for (int a : new int[] {MIN, -1, 4, MAX}) {
            Expect.same("CONST of any number", desk.add(Ops.CONST, 0, a, a), next);
            next++;
        }
        Expect.same("INPUT 4", desk.add(Ops.INPUT, 0, 4, 0), -1);
        Expect.same("INPUT -1", desk.add(Ops.INPUT, 0, -1, 0), -1);
        Expect.same("OUTPUT on 4", desk.add(Ops.OUTPUT, 4, 0, 0), -1);
        Expect.same("OUTPUT on -1", desk.add(Ops.OUTPUT, -1, 0, 0), -1);
        Expect.same("the next one", desk.add(Ops.PROC, MIN, MAX, -1), next);
        ProgramSlices built = Ops.built();
        Expect.same("add to a built program", built.add(Ops.CONST, 0, 0, 0), -1);
        Expect.same("a built program without instructions", built.run(true, 0), 0);
    }

    /** "Takes all instructions away; the program is not built, and there is no slice and no run." */
    private static void promise3() {
        ProgramSlices desk = new ProgramSlices();
        desk.clear();
        desk.clear();
        notBuilt("a new object that was cleared", desk);
        for (int k = 0; k < 2; k++) {
            for (int i = 0; i < 32; i++) {
                Expect.same("add " + i, desk.add(Ops.OUTPUT, 0, 0, 0), i);
            }
            Expect.same("one more", desk.add(Ops.OUTPUT, 0, 0, 0), -1);
            desk.clear();
        }
        for (int k = 0; k < 2; k++) {
            promise3OfSlice(k == 1);
        }
        promise3Keeps();
    }

    private static void promise3OfSlice(boolean forward) {
        ProgramSlices desk = new ProgramSlices();
        for (int round = 0; round < 2; round++) {
            Ops.fill(desk, Ops.CALL_1, 0, 0, 0, Ops.OUTPUT, 0, 0, 0, Ops.PROC, 0, 0, 0);
            Expect.same("build", desk.build(), 0);
            desk.slice(1, forward);
            desk.run(true, 600);
            Expect.same("a run", desk.steps(), 2);
            desk.clear();
            notBuilt("cleared", desk);
            Expect.same("the next number", desk.add(Ops.INPUT, 0, 0, 0), 0);
            noSlice("cleared and added to", desk);
            Expect.same("build again", desk.build(), 0);
            noSlice("built again", desk);
            noRun("built again", desk);
            desk.clear();
        }
    }

    /** "(Inputs, levels and labels stay.)" */
    private static void promise3Keeps() {
        ProgramSlices desk = new ProgramSlices();
        for (int k = 0; k < 4; k++) {
            desk.input(k, 10 + k);
        }
        desk.levels(5);
        for (int level = 0; level < 4; level++) {
            desk.below(level, level + 1);
        }
        for (int k = 0; k < 4; k++) {
            desk.label(false, k, k + 1);
            desk.label(true, k, k);
        }
        desk.clear();
        Expect.same("the order stays", desk.lattice(), 0);
        Expect.same("five levels stay", desk.label(true, 0, 4) && desk.label(true, 0, 0), true);
        for (int k = 0; k < 4; k++) {
            Ops.fill(desk, Ops.INPUT, k, k, 0, Ops.OUTPUT, k, k, 0);
        }
        desk.build();
        Expect.same("the labels stay", desk.check(), 4);
        desk.run(true, 600);
        for (int k = 0; k < 4; k++) {
            Expect.same("flow " + k, desk.flow(k), 32 * 2 * k + 2 * k + 1);
            Expect.same("input " + k + " stays", desk.written(k, 0), 10 + k);
        }
        for (int k = 0; k < 4; k++) {
            desk.label(true, k, k + 1);
        }
        Expect.same("labels that let all through", desk.check(), 0);
        desk.clear();
        for (int k = 0; k < 4; k++) {
            Ops.fill(desk, Ops.OUTPUT, k, k, 0, Ops.INPUT, k, k, 0, Ops.OUTPUT, k, k, 0);
        }
        desk.build();
        Expect.same("the channels' labels stay", desk.check(), 0);
        desk.label(true, 2, 2);
        Expect.same("one less", desk.check(), 1);
        Expect.same("its flow", desk.flow(0), 32 * 7 + 8);
    }

    private static void nothingIsLeftOfTheProgramBefore() {
        ProgramSlices desk = Ops.built(
                Ops.CALL_1, 2, 0, 1, Ops.CONST, 2, 1, 0, Ops.CALL_1, 1, 0, 0, Ops.DIV, 3, 0, 0, Ops.STORE, 0, 0, 0,
                Ops.OUTPUT, 0, 2, 0, Ops.PROC, 0, 0, 0, Ops.ADD, 0, 0, 1, Ops.CALL_1, 0, 0, 0);
        desk.clear();
        Ops.fill(desk, Ops.INPUT, 2, 0, 0, Ops.OUTPUT, 0, 0, 0, Ops.CALL_1, 1, 2, 2, Ops.OUTPUT, 1, 2, 0,
                Ops.LOAD, 0, 3, 0, Ops.STORE, 0, 0, 0, Ops.PROC, 0, 0, 0, Ops.CONST, 3, 7, 0);
        Expect.same("build", desk.build(), 0);
        Expect.same("no definition of before", desk.depends(3, 0), 2);
        Expect.same("no DIV of before", desk.depends(4, 3), 0);
        Expect.same("no STORE of before", desk.depends(4, 1), 0);
        Expect.same("no summary of before", desk.summary(2, 0, 1), false);
        Expect.same("no CALL where one was", desk.summary(0, 0, 0), false);
        slice(desk, 7, false, 2, 7);
        for (int gone = 8; gone < 10; gone++) {
            Expect.same("depends on what is gone", desk.depends(7, gone) + desk.depends(gone, gone), 0);
            Expect.same("summary of what is gone", desk.summary(gone, 0, 0), false);
            Expect.same("slice of what is gone", desk.slice(gone, false), -1);
            Expect.same("sliced of what is gone", desk.sliced(gone), false);
        }
        slice(desk, 3, true, 3);
        two(desk);
        desk.label(false, 0, 1);
        Expect.same("no sink of before", desk.check(), 1);
        Expect.same("the sink", desk.flow(0), 3);
    }

    private static int build(int... ops) {
        ProgramSlices desk = new ProgramSlices();
        for (int op : ops) {
            desk.add(op, 0, 0, 0);
        }
        int answer = desk.build();
        Expect.same("build again", desk.build(), answer == 0 ? -2 : answer);
        Expect.same("and again", desk.build(), answer == 0 ? -2 : answer);
        Expect.same("built, so it runs", desk.run(true, 0) != -1, answer == 0);
        return answer;
    }

    /** Each thing that cannot stand, and the last of its kind that can. */
    private static void promise4() {
        Expect.same("nothing at all", build(), 0);
        Expect.same("ELSE while nothing is OPEN", build(Ops.ELSE), -3);
        Expect.same("ELSE behind END", build(Ops.IF, Ops.END, Ops.ELSE), -5);
        Expect.same("ELSE in a WHILE", build(Ops.WHILE, Ops.ELSE), -4);
        Expect.same("ELSE in a WHILE in an IF", build(Ops.IF, Ops.WHILE, Ops.ELSE), -5);
        Expect.same("ELSE behind that WHILE", build(Ops.IF, Ops.WHILE, Ops.END, Ops.ELSE, Ops.END), 0);
        Expect.same("a second ELSE", build(Ops.IF, Ops.ELSE, Ops.CONST, Ops.ELSE, Ops.END), -6);
        Expect.same("an ELSE for each IF",
                build(Ops.IF, Ops.ELSE, Ops.IF, Ops.ELSE, Ops.END, Ops.END, Ops.IF, Ops.ELSE, Ops.END), 0);
        Expect.same("a second ELSE behind an inner one",
                build(Ops.IF, Ops.ELSE, Ops.IF, Ops.ELSE, Ops.END, Ops.ELSE, Ops.END), -8);
        Expect.same("END while nothing is OPEN", build(Ops.END), -3);
        Expect.same("an END too many", build(Ops.WHILE, Ops.END, Ops.END), -5);
        Expect.same("an END in the next procedure", build(Ops.PROC, Ops.END), -4);
        Expect.same("PROC while an IF is OPEN", build(Ops.IF, Ops.PROC), -4);
        Expect.same("PROC behind an ELSE", build(Ops.IF, Ops.ELSE, Ops.PROC), -5);
        Expect.same("PROC while a WHILE is OPEN", build(Ops.WHILE, Ops.PROC), -4);
        Expect.same("four procedures", build(Ops.PROC, Ops.PROC, Ops.PROC), 0);
        Expect.same("a fifth", build(Ops.PROC, Ops.PROC, Ops.PROC, Ops.PROC), -6);
        Expect.same("a fifth with instructions between",
                build(Ops.CONST, Ops.PROC, Ops.CONST, Ops.PROC, Ops.CONST, Ops.PROC, Ops.CONST, Ops.PROC), -10);
        int[] openers = {Ops.IF, Ops.WHILE};
        for (int opener : openers) {
            Expect.same("four OPEN", build(opener, opener, opener, opener, Ops.END, Ops.END, Ops.END, Ops.END), 0);
            for (int fifth : openers) {
                Expect.same("a fifth OPEN", build(opener, opener, opener, opener, fifth), -7);
                Expect.same("a fifth behind an END",
                        build(opener, opener, opener, opener, Ops.END, fifth, Ops.END, Ops.END, Ops.END, Ops.END), 0);
            }
        }
        Expect.same("four OPEN in the next procedure", build(Ops.IF, Ops.END, Ops.PROC, Ops.IF, Ops.IF, Ops.IF,
                Ops.IF, Ops.END, Ops.END, Ops.END, Ops.END), 0);
        Expect.same("one OPEN at the end", build(Ops.CONST, Ops.IF), -5);
        Expect.same("four OPEN at the end", build(Ops.IF, Ops.IF, Ops.IF, Ops.IF), -7);
        Expect.same("OPEN at the end behind an ELSE", build(Ops.IF, Ops.ELSE), -5);
        for (int q = 0; q < 4; q++) {
            Expect.same("a CALL of " + q + " of one", build(Ops.CALL_0 + q), q < 1 ? 0 : -3);
            Expect.same("a CALL of " + q + " of two", build(Ops.CALL_0 + q, Ops.PROC), q < 2 ? 0 : -3);
            Expect.same("a CALL of " + q + " of three", build(Ops.PROC, Ops.PROC, Ops.CALL_0 + q), q < 3 ? 0 : -5);
            Expect.same("a CALL of " + q + " of four", build(Ops.CALL_0 + q, Ops.PROC, Ops.PROC, Ops.PROC), 0);
        }
    }

    /** "the first instruction that cannot stand", then what is OPEN, then "the first CALL" */
    private static void promise4FirstThatCannotStand() {
        Expect.same("an END, then an ELSE", build(Ops.CONST, Ops.END, Ops.ELSE), -4);
        Expect.same("an ELSE, then an END", build(Ops.ELSE, Ops.END), -3);
        Expect.same("a fifth IF, then a PROC", build(Ops.IF, Ops.IF, Ops.IF, Ops.IF, Ops.IF, Ops.PROC), -7);
        Expect.same("a CALL, then an END", build(Ops.CALL_3, Ops.CONST, Ops.END), -5);
        Expect.same("a CALL, and an IF that is OPEN", build(Ops.CALL_3, Ops.IF, Ops.CONST), -6);
        Expect.same("an IF that is OPEN, and an END before it", build(Ops.END, Ops.IF), -3);
        Expect.same("two CALLs", build(Ops.CALL_0, Ops.CALL_2, Ops.CALL_1), -4);
        Expect.same("two CALLs, the first is good", build(Ops.CALL_1, Ops.CALL_2, Ops.PROC), -4);
        Expect.same("a CALL and a PROC too many", build(Ops.CALL_3, Ops.PROC, Ops.PROC, Ops.PROC, Ops.PROC), -7);
    }

    /** "(When it is refused instructions may still be added.)" */
    private static void promise4MayGoOn() {
        ProgramSlices desk = new ProgramSlices();
        Ops.fill(desk, Ops.WHILE, 0, 0, 0, Ops.CALL_1, 0, 0, 0);
        Expect.same("a WHILE is OPEN", desk.build(), -5);
        notBuilt("refused", desk);
        Expect.same("add after that", desk.add(Ops.END, 0, 0, 0), 2);
        Expect.same("a CALL of nothing", desk.build(), -4);
        notBuilt("refused again", desk);
        Expect.same("add after that too", desk.add(Ops.PROC, 0, 0, 0), 3);
        Expect.same("it stands", desk.build(), 0);
        Expect.same("depends then", desk.depends(1, 0), 1);
        Expect.same("it was built already", desk.build(), -2);
        Expect.same("add then", desk.add(Ops.PROC, 0, 0, 0), -1);
        Expect.same("depends still", desk.depends(1, 0), 1);
        ProgramSlices never = new ProgramSlices();
        never.add(Ops.END, 0, 0, 0);
        Expect.same("an END", never.build(), -3);
        Expect.same("add behind it", never.add(Ops.IF, 0, 0, 0), 1);
        Expect.same("the END is still the first", never.build(), -3);
        never.clear();
        Expect.same("build of what was cleared", never.build(), 0);
    }

    /** "There are n levels, 1 .. 5, with no order .. and all inputs and channels have level 0" */
    private static void promise5() {
        ProgramSlices desk = Ops.built(Ops.INPUT, 0, 0, 0, Ops.OUTPUT, 0, 0, 0);
        for (int n : new int[] {0, 6, -1, MIN, MAX}) {
            Expect.same("levels(" + n + ")", desk.levels(n), false);
        }
        Expect.same("still one", desk.lattice(), 0);
        for (int n = 1; n <= 5; n++) {
            Expect.same("levels(" + n + ")", desk.levels(n), true);
            Expect.same("no order of " + n, desk.lattice(), n == 1 ? 0 : 2);
            for (int level = 0; level < 7; level++) {
                Expect.same("level " + level + " of " + n, desk.below(level, level), level < n);
            }
            for (int a = 0; a + 1 < n; a++) {
                desk.below(a, a + 1);
            }
            Expect.same("a chain of " + n, desk.lattice(), 0);
            Expect.same("all labels are 0", desk.check(), 0);
            desk.label(false, 0, n - 1);
            Expect.same("the highest input", desk.check(), n == 1 ? 0 : 1);
        }
        desk.label(true, 0, 4);
        desk.levels(5);
        desk.below(1, 0);
        desk.below(2, 1);
        desk.below(3, 2);
        desk.below(4, 3);
        Expect.same("the labels are 0, the order is the other way", desk.check(), 0);
        desk.label(true, 0, 4);
        Expect.same("0 is not below 4", desk.check(), 1);
        Expect.same("the program stays", desk.slice(1, false), 2);
        desk.run(true, 5);
        desk.levels(3);
        Expect.same("the slice stays", Ops.mask(desk), Ops.of(0, 1));
        Expect.same("the run stays", desk.steps(), 2);
        Expect.same("what was seen stays", desk.seen(-1), 1);
    }

    /** "False (refused) when one is no level." */
    private static void promise6() {
        for (int n = 1; n <= 5; n++) {
            ProgramSlices desk = new ProgramSlices();
            desk.levels(n);
            for (int a = -1; a <= 6; a++) {
                for (int b = -1; b <= 6; b++) {
                    boolean good = a >= 0 && a < n && b >= 0 && b < n;
                    Expect.same("below(" + a + ", " + b + ") of " + n, desk.below(a, b), good);
                }
            }
            Expect.same("all below all of " + n, desk.lattice(), n == 1 ? 0 : 1);
        }
        ProgramSlices less = new ProgramSlices();
        less.levels(5);
        less.levels(2);
        Expect.same("a level of before", less.below(0, 4), false);
        Expect.same("a level of before, first", less.below(2, 0), false);
    }

    /** "False (refused) when k is not 0 .. 3 or there is no such level." */
    private static void promise7() {
        ProgramSlices desk = new ProgramSlices();
        for (int n = 1; n <= 5; n++) {
            desk.levels(n);
            for (int k = -1; k <= 4; k++) {
                for (int level = -1; level <= 5; level++) {
                    boolean good = k >= 0 && k < 4 && level >= 0 && level < n;
                    Expect.same("label of channel " + k, desk.label(true, k, level), good);
                    Expect.same("label of input " + k, desk.label(false, k, level), good);
                }
            }
        }
        for (int k = 0; k < 4; k++) {
            ProgramSlices one = two(new ProgramSlices());
            for (int j = 0; j < 4; j++) {
                Ops.fill(one, Ops.INPUT, 0, j, 0, Ops.OUTPUT, j, 0, 0);
            }
            one.build();
            one.label(false, k, 1);
            Expect.same("only input " + k, one.check(), 1);
            Expect.same("its flow", one.flow(0), 32 * 2 * k + 2 * k + 1);
            one.label(true, (k + 1) % 4, 1);
            Expect.same("another channel", one.check(), 1);
            one.label(true, k, 1);
            Expect.same("channel " + k, one.check(), 0);
        }
    }

    /** "otherwise the first that holds" */
    private static void promise8() {
        ProgramSlices desk = new ProgramSlices();
        desk.levels(4);
        Expect.same("nothing told", desk.lattice(), 2);
        desk.below(0, 3);
        desk.below(1, 3);
        Expect.same("2 has none above it and another", desk.lattice(), 2);
        desk.below(2, 3);
        Expect.same("no BOTTOM", desk.lattice(), 3);
        desk.below(0, 1);
        Expect.same("still no BOTTOM", desk.lattice(), 3);
        desk.below(0, 2);
        Expect.same("a LATTICE", desk.lattice(), 0);
        desk.below(3, 0);
        Expect.same("two below one another", desk.lattice(), 1);
        desk.levels(5);
        for (int low = 0; low < 2; low++) {
            desk.below(low, 2);
            desk.below(low, 3);
        }
        desk.below(2, 4);
        desk.below(3, 4);
        Expect.same("2 and 3 at once", desk.lattice(), 2);
        desk.below(4, 2);
        Expect.same("1, 2 and 3 at once", desk.lattice(), 1);
    }

    /** "0 when it does not, they are of two procedures, one is no node, or the program was not built." */
    private static void promise9() {
        ProgramSlices desk = new ProgramSlices();
        Ops.fill(desk, Ops.DIV, 0, 1, 1, Ops.IF, 0, 0, 0, Ops.CALL_1, 0, 0, 0, Ops.ELSE, 0, 0, 0, Ops.END, 0, 0, 0,
                Ops.PROC, 0, 0, 0, Ops.DIV, 0, 0, 0, Ops.OUTPUT, 0, 0, 0);
        Expect.same("not built", desk.depends(1, 0), 0);
        desk.build();
        Expect.same("built", desk.depends(1, 0), 10);
        Expect.same("a CALL in an IF, all but heap", desk.depends(2, 1), 1);
        Expect.same("a CALL by its ARGs and by halt", desk.depends(2, 0), 10);
        Expect.same("a CALL does not depend on itself", desk.depends(2, 2), 0);
        Expect.same("it has a summary", desk.summary(2, 0, 0), true);
        for (int n = 0; n < 3; n++) {
            for (int m = 6; m < 8; m++) {
                Expect.same("two procedures", desk.depends(n, m) + desk.depends(m, n), 0);
            }
        }
        Expect.same("the second procedure", desk.depends(7, 6), 10);
        for (int bad : new int[] {MIN, MIN + 7, -32, -25, -1, 3, 4, 5, 8, 31, 32, 38, 39, 64, MAX}) {
            Expect.same("depends(7, " + bad + ")", desk.depends(7, bad), 0);
            Expect.same("depends(" + bad + ", 6)", desk.depends(bad, 6), 0);
            Expect.same("depends(" + bad + ", 0)", desk.depends(bad, 0), 0);
            Expect.same("depends(" + bad + ", " + bad + ")", desk.depends(bad, bad), 0);
        }
        desk.clear();
        Expect.same("cleared", desk.depends(1, 0), 0);
        promise9All();
    }

    /** All four kinds at once, of two CALLs in a loop and of one with itself. */
    private static void promise9All() {
        ProgramSlices desk = Ops.built(
                Ops.WHILE, 0, 0, 0, Ops.CALL_1, 1, 1, 2, Ops.CALL_1, 2, 2, 1, Ops.IF, 0, 2, 0, Ops.LOAD, 0, 2, 0,
                Ops.END, 0, 0, 0, Ops.END, 0, 0, 0, Ops.PROC, 0, 0, 0);
        int[][] due = {
            {0, 8, 8, 0, 2}, {1, 14, 14, 0, 0}, {1, 14, 14, 0, 0}, {1, 8, 10, 0, 0}, {0, 12, 14, 1, 0}
        };
        for (int n = 0; n < 5; n++) {
            for (int m = 0; m < 5; m++) {
                Expect.same("depends(" + n + ", " + m + ")", desk.depends(n, m), due[n][m]);
            }
        }
    }

    /** "False when it has not, i is no CALL, to or of is not 0 .. 2, or the program was not built." */
    private static void promise10() {
        ProgramSlices desk = new ProgramSlices();
        Ops.fill(desk, Ops.CALL_1, 2, 0, 1, Ops.IF, 0, 0, 0, Ops.ELSE, 0, 0, 0, Ops.END, 0, 0, 0, Ops.PROC, 0, 0, 0,
                Ops.LOAD, 2, 1, 0, Ops.ADD, 2, 2, 0, Ops.DIV, 2, 2, 1, Ops.STORE, 0, 2, 2, Ops.ADD, 0, 2, 0);
        Expect.same("not built", desk.summary(0, 0, 0), false);
        desk.build();
        for (int to = -2; to <= 4; to++) {
            for (int of = -2; of <= 4; of++) {
                boolean good = to >= 0 && to <= 2 && of >= 0 && of <= 2;
                Expect.same("summary(0, " + to + ", " + of + ")", desk.summary(0, to, of), good);
            }
        }
        for (int bad : new int[] {MIN, MIN + 1, MAX - 1, MAX, 32, -32}) {
            for (int k = 0; k < 3; k++) {
                Expect.same("summary(0, " + bad + ", " + k + ")", desk.summary(0, bad, k), false);
                Expect.same("summary(0, " + k + ", " + bad + ")", desk.summary(0, k, bad), false);
            }
        }
        for (int bad : new int[] {MIN, -32, -1, 1, 2, 3, 4, 5, 6, 7, 8, 9, 10, 31, 32, 64, MAX}) {
            for (int k = 0; k < 9; k++) {
                Expect.same("summary(" + bad + ", ..)", desk.summary(bad, k / 3, k % 3), false);
            }
        }
        desk.clear();
        Expect.same("cleared", desk.summary(0, 0, 0), false);
        ProgramSlices full = new ProgramSlices();
        for (int i = 0; i < 32; i++) {
            full.add(Ops.CALL_0, 0, 0, 0);
        }
        full.build();
        Expect.same("summary(32, ..) of 32", full.summary(32, 0, 0), false);
        Expect.same("depends(32, ..) of 32", full.depends(32, 0) + full.depends(0, 32), 0);
        Expect.same("slice(32, ..) of 32", full.slice(32, false), -1);
        Expect.same("all depend on the last by halt", full.slice(31, false), 32);
        Expect.same("sliced(32) of 32", full.sliced(32), false);
        Expect.same("sliced(-1) of 32", full.sliced(-1), false);
    }

    /** "in place of any before: the number of instructions in it; there is no run then" */
    private static void promise11() {
        ProgramSlices desk = Ops.built(
                Ops.INPUT, 0, 0, 0, Ops.OUTPUT, 0, 0, 0, Ops.CONST, 1, 4, 0, Ops.OUTPUT, 1, 1, 0);
        for (int k = 0; k < 2; k++) {
            slice(desk, 1, false, 0, 1);
            desk.run(true, 600);
            slice(desk, 3, false, 2, 3);
            noRun("after a slice", desk);
            desk.run(true, 600);
            slice(desk, 0, true, 0, 1);
            noRun("after a forward slice", desk);
            desk.run(true, 600);
            Expect.same("no node", desk.slice(4, false), -1);
            Expect.same("the run stays", desk.steps(), 4);
            Expect.same("the slice stays", Ops.mask(desk), Ops.of(0, 1));
            Expect.same("it is still the forward one", desk.fit(), -1);
            slice(desk, 2, true, 2, 3);
            slice(desk, 2, false, 2);
        }
        ProgramSlices first = Ops.built(
                Ops.CALL_3, 0, 0, 0, Ops.PROC, 0, 0, 0, Ops.PROC, 0, 0, 0, Ops.PROC, 0, 0, 0, Ops.ADD, 0, 0, 1);
        slice(first, 0, false, 0);
        slice(first, 0, true, 0, 4);
        slice(first, 4, false, 0, 4);
        slice(first, 4, true, 4);
    }

    /** Procedure 0 may be called too, and has an ENTRY and PARAMs like the others. */
    private static void promise11OfProcedure0() {
        ProgramSlices entry = Ops.built(Ops.CONST, 0, 1, 0, Ops.PROC, 0, 0, 0, Ops.CALL_0, 0, 0, 0);
        slice(entry, 0, false, 0, 2);
        slice(entry, 2, true, 0, 2);
        ProgramSlices first = Ops.built(
                Ops.CALL_1, 0, 0, 1, Ops.PROC, 0, 0, 0, Ops.ADD, 0, 0, 0, Ops.PROC, 0, 0, 0,
                Ops.INPUT, 3, 0, 0, Ops.CALL_0, 0, 3, 1, Ops.OUTPUT, 0, 0, 0);
        Expect.same("a summary through the CALL at 0", first.summary(5, 0, 0), true);
        Expect.same("but not of its ARG 1", first.summary(5, 0, 1), false);
        slice(first, 6, false, 0, 2, 4, 5, 6);
        slice(first, 4, true, 2, 4, 6);
    }

    /** "-1 (refused) when there is no slice, or it is a forward one"; "there is no run then" */
    private static void promise12() {
        ProgramSlices desk = Ops.built(Ops.INPUT, 0, 0, 0, Ops.OUTPUT, 0, 0, 0);
        desk.run(true, 600);
        Expect.same("fit without a slice", desk.fit(), -1);
        Expect.same("the run stays", desk.steps(), 2);
        desk.slice(1, true);
        desk.run(true, 600);
        Expect.same("fit of a forward one", desk.fit(), -1);
        Expect.same("that run stays", desk.steps(), 2);
        Expect.same("what it saw stays", desk.seen(-1), 1);
        slice(desk, 1, false, 0, 1);
        desk.run(false, 600);
        fit(desk, 0, 1);
        noRun("after fit", desk);
        desk.run(false, 600);
        fit(desk, 0, 1);
        noRun("after fit of what was fit", desk);
        Expect.same("it is still a backward one", desk.run(false, 600), 0);
        Expect.same("seen of the same instruction", desk.seen(-1), 1);
    }

    /** "while it has a CALL of some q": one that is not in the slice needs nothing. */
    private static void promise12OnlyWhatIsInIt() {
        ProgramSlices desk = Ops.built(
                Ops.INPUT, 0, 0, 0, Ops.CALL_1, 1, 0, 0, Ops.OUTPUT, 0, 1, 0, Ops.INPUT, 2, 1, 0,
                Ops.CALL_1, 3, 2, 2, Ops.PROC, 0, 0, 0, Ops.MUL, 0, 0, 1);
        slice(desk, 2, false, 0, 1, 2, 6);
        fit(desk, 0, 1, 2, 6);
        ProgramSlices param = Ops.built(
                Ops.INPUT, 2, 1, 0, Ops.INPUT, 0, 0, 0, Ops.CALL_1, 3, 2, 0, Ops.CALL_1, 1, 0, 2, Ops.OUTPUT, 0, 1, 0,
                Ops.PROC, 0, 0, 0, Ops.PROC, 0, 0, 0, Ops.PROC, 0, 0, 0, Ops.CONST, 0, 1, 0);
        slice(param, 4, false, 1, 2, 3, 4);
        fit(param, 0, 1, 2, 3, 4);
    }

    /**
     * The document does not say which CALL comes first. Here it matters: were ARG 0 of the CALL at 10 taken
     * first, ARG 0 of the CALL at 4 would come in with it, but not the CALL at 1, which calls that one's procedure.
     */
    private static void promise12InTheOrderOfTheCalls() {
        ProgramSlices desk = Ops.built(
                Ops.PROC, 0, 0, 0, Ops.CALL_2, 1, 3, 2, Ops.PROC, 0, 0, 0, Ops.STORE, 0, 2, 0, Ops.CALL_2, 2, 3, 3,
                Ops.PROC, 0, 0, 0, Ops.CALL_0, 3, 3, 2, Ops.IF, 0, 0, 0, Ops.ADD, 3, 1, 2, Ops.CONST, 1, 3, 0,
                Ops.CALL_0, 3, 3, 0, Ops.ELSE, 0, 0, 0, Ops.ADD, 0, 0, 3, Ops.CALL_2, 1, 0, 0, Ops.LOAD, 0, 0, 0,
                Ops.END, 0, 0, 0, Ops.IF, 0, 1, 0, Ops.CALL_3, 2, 2, 0, Ops.END, 0, 0, 0);
        slice(desk, 17, false, 4, 6, 7, 9, 10, 12, 13, 16, 17);
        fit(desk, 1, 3, 4, 6, 7, 8, 9, 10, 12, 13, 14, 16, 17);
    }

    /** The CALL at 0 and the CALLs of procedure 0 are made fit like the others. */
    private static void promise12AtTheFirst() {
        ProgramSlices first = Ops.built(
                Ops.CALL_1, 2, 0, 0, Ops.INPUT, 3, 3, 0, Ops.CALL_1, 3, 3, 3, Ops.OUTPUT, 0, 3, 0, Ops.PROC, 0, 0, 0,
                Ops.MUL, 0, 0, 1, Ops.PROC, 0, 0, 0, Ops.INPUT, 1, 1, 0, Ops.CALL_0, 2, 1, 2);
        slice(first, 3, false, 0, 1, 2, 3, 5, 8);
        fit(first, 0, 1, 2, 3, 5, 7, 8);
        ProgramSlices zero = Ops.built(
                Ops.MUL, 0, 0, 0, Ops.PROC, 0, 0, 0, Ops.INPUT, 0, 0, 0, Ops.CALL_0, 2, 0, 0, Ops.INPUT, 1, 1, 0,
                Ops.CALL_0, 3, 1, 1, Ops.OUTPUT, 0, 3, 0);
        slice(zero, 6, false, 0, 3, 4, 5, 6);
        fit(zero, 0, 2, 3, 4, 5, 6);
        ProgramSlices last = new ProgramSlices();
        Ops.fill(last, Ops.INPUT, 0, 0, 0, Ops.CALL_3, 1, 0, 0, Ops.PROC, 0, 0, 0, Ops.PROC, 0, 0, 0, Ops.PROC, 0, 0, 0);
        for (int i = 5; i < 27; i++) {
            last.add(Ops.CONST, 3, i, 0);
        }
        Ops.fill(last, Ops.OUTPUT, 0, 0, 0, Ops.LESS, 1, 1, 2, Ops.WHILE, 0, 1, 0, Ops.CALL_3, 2, 2, 2, Ops.END, 0, 0, 0);
        Expect.same("build", last.build(), 0);
        slice(last, 27, false, 0, 1, 27, 28, 29, 30);
        fit(last, 0, 1, 27, 28, 29, 30);
    }

    private static void promise12ForTheHeap() {
        ProgramSlices desk = Ops.built(
                Ops.INPUT, 0, 0, 0, Ops.INPUT, 1, 1, 0, Ops.STORE, 0, 0, 1, Ops.CALL_1, 2, 3, 3, Ops.CALL_2, 3, 3, 3,
                Ops.CALL_1, 3, 0, 1, Ops.OUTPUT, 0, 2, 0, Ops.PROC, 0, 0, 0, Ops.LOAD, 0, 2, 0, Ops.PROC, 0, 0, 0,
                Ops.STORE, 0, 3, 3);
        slice(desk, 6, false, 0, 1, 2, 3, 4, 5, 6, 8);
        fit(desk, 0, 1, 2, 3, 4, 5, 6, 8, 10);
    }

    /** "Whether instruction k is in the slice as it is now; false when there is none." */
    private static void promise13() {
        ProgramSlices desk = Ops.built(
                Ops.INPUT, 0, 0, 0, Ops.CALL_1, 1, 0, 0, Ops.CALL_1, 2, 3, 3, Ops.IF, 0, 2, 0, Ops.OUTPUT, 0, 2, 0,
                Ops.ELSE, 0, 0, 0, Ops.END, 0, 0, 0, Ops.PROC, 0, 0, 0);
        for (int k = -1; k <= 32; k++) {
            Expect.same("no slice, sliced(" + k + ")", desk.sliced(k), false);
        }
        slice(desk, 4, false, 1, 2, 3, 4);
        fit(desk, 0, 1, 2, 3, 4);
        Expect.same("the slice as it is now", desk.sliced(0), true);
        slice(desk, 4, false, 1, 2, 3, 4);
        Expect.same("the slice before fit", desk.sliced(0), false);
        for (int bad : new int[] {MIN, MIN + 4, -64, -32, -31, -28, -1, 5, 6, 7, 8, 31, 32, 33, 34, 36, 64, 68, MAX}) {
            Expect.same("sliced(" + bad + ")", desk.sliced(bad), false);
        }
        slice(desk, 3, true, 3, 4);
        Expect.same("refused", desk.slice(5, false), -1);
        Expect.same("as it is now", Ops.mask(desk), Ops.of(3, 4));
    }

    /** "Input k becomes v (the latest run stays as it was): true. False (refused) when k is not 0 .. 3." */
    private static void promise14() {
        for (int k = 0; k < 4; k++) {
            ProgramSlices desk = new ProgramSlices();
            for (int j = 0; j < 4; j++) {
                Ops.fill(desk, Ops.INPUT, 0, j, 0, Ops.OUTPUT, j, 0, 0);
            }
            desk.build();
            desk.slice(2 * k, false);
            desk.run(true, 600);
            int before = 0;
            for (int v : new int[] {MIN, MAX, -1, 7}) {
                Expect.same("input(" + k + ", " + v + ")", desk.input(k, v), true);
                Expect.same("the run stays", desk.steps(), 8);
                Expect.same("what it wrote stays", desk.written(k, 0), before);
                Expect.same("what it saw stays", desk.seen(0), before);
                desk.run(true, 600);
                for (int j = 0; j < 4; j++) {
                    Expect.same("input " + j + " then", desk.written(j, 0), j == k ? v : 0);
                }
                Expect.same("seen then", desk.seen(0), v);
                before = v;
            }
            for (int bad : new int[] {MIN, MIN + k, -4, -1, 4, 4 + k, MAX}) {
                Expect.same("input(" + bad + ", 1)", desk.input(bad, 1), false);
            }
            desk.run(true, 600);
            for (int j = 0; j < 4; j++) {
                Expect.same("input " + j + " after a refused one", desk.written(j, 0), j == k ? 7 : 0);
            }
        }
    }

    /** "with a fuel of 0 .. 600 .. -1 (refused) when .. the fuel is another" and what a run answers */
    private static void promise15() {
        ProgramSlices loop = Ops.built(Ops.CONST, 0, 1, 0, Ops.WHILE, 0, 0, 0, Ops.END, 0, 0, 0);
        for (int fuel : new int[] {0, 1, 2, 599, 600}) {
            Expect.same("fuel " + fuel, loop.run(true, fuel), 2);
            Expect.same("steps with fuel " + fuel, loop.steps(), fuel);
        }
        for (int fuel : new int[] {MIN, -600, -1, 601, 602, 1000, MAX}) {
            Expect.same("fuel " + fuel, loop.run(true, fuel), -1);
            Expect.same("steps of the run before", loop.steps(), 600);
        }
        ProgramSlices desk = Ops.built(Ops.INPUT, 0, 0, 0, Ops.DIV, 1, 0, 0, Ops.OUTPUT, 0, 1, 0, Ops.OUTPUT, 1, 0, 0);
        Expect.same("HALTED", desk.run(true, 600), 1);
        Expect.same("no slice", desk.run(false, 600), -1);
        Expect.same("that run stays", desk.steps(), 2);
        desk.input(0, 5);
        Expect.same("came to its EXIT", desk.run(true, 4), 0);
        Expect.same("TIRED", desk.run(true, 3), 2);
        desk.slice(0, false);
        Expect.same("a slice", desk.run(false, 1), 0);
        Expect.same("a slice TIRED", desk.run(false, 0), 2);
        Expect.same("whole, with a slice", desk.run(true, 600), 0);
        Expect.same("steps of the whole", desk.steps(), 4);
        desk.slice(2, false);
        desk.input(0, 0);
        Expect.same("a slice HALTED", desk.run(false, 600), 1);
        desk.slice(2, true);
        Expect.same("a forward one", desk.run(false, 600), -1);
        noRun("after a forward slice", desk);
        Expect.same("whole, with a forward one", desk.run(true, 600), 1);
        Expect.same("a forward one again", desk.run(false, 600), -1);
        Expect.same("the run stays", desk.steps(), 2);
        promise15FitOrNot();
    }

    /** "the slice as it is now (fit or not)" */
    private static void promise15FitOrNot() {
        ProgramSlices desk = Ops.built(
                Ops.CONST, 2, 1, 0, Ops.CALL_1, 1, 2, 2, Ops.CALL_1, 3, 0, 0, Ops.OUTPUT, 0, 3, 0, Ops.PROC, 0, 0, 0,
                Ops.WHILE, 0, 0, 0, Ops.CONST, 0, 0, 0, Ops.END, 0, 0, 0);
        slice(desk, 3, false, 1, 2, 3, 5, 6);
        Expect.same("not fit", desk.run(false, 600), 0);
        Expect.same("steps of the one that is not fit", desk.steps(), 5);
        fit(desk, 0, 1, 2, 3, 5, 6);
        Expect.same("fit", desk.run(false, 600), 0);
        Expect.same("steps of the fit one", desk.steps(), 8);
    }

    /** "The steps of the latest run; -1 when there is none." */
    private static void promise16() {
        ProgramSlices desk = new ProgramSlices();
        Expect.same("a new object", desk.steps(), -1);
        Ops.fill(desk, Ops.INPUT, 0, 0, 0, Ops.IF, 0, 0, 0, Ops.OUTPUT, 0, 0, 0, Ops.END, 0, 0, 0);
        Expect.same("not built", desk.steps(), -1);
        desk.build();
        Expect.same("built", desk.steps(), -1);
        desk.run(true, 0);
        Expect.same("a run of no steps", desk.steps(), 0);
        desk.run(true, 600);
        Expect.same("two", desk.steps(), 2);
        desk.input(0, 1);
        desk.levels(2);
        desk.below(0, 1);
        desk.label(true, 0, 1);
        desk.label(false, 0, 1);
        desk.lattice();
        desk.check();
        desk.flow(0);
        desk.depends(1, 0);
        desk.summary(0, 0, 0);
        desk.sliced(0);
        Expect.same("still two", desk.steps(), 2);
        desk.run(true, 600);
        Expect.same("three", desk.steps(), 3);
        desk.slice(0, false);
        Expect.same("a slice", desk.steps(), -1);
        desk.run(false, 600);
        Expect.same("one", desk.steps(), 1);
        desk.fit();
        Expect.same("fit", desk.steps(), -1);
        desk.run(true, 1);
        Expect.same("a tired one", desk.steps(), 1);
        desk.clear();
        Expect.same("cleared", desk.steps(), -1);
    }

    /** Counts down from input 0: the SUB at 3 has so many values, and so many are written on channel 1. */
    private static ProgramSlices countdown() {
        return Ops.built(
                Ops.INPUT, 0, 0, 0, Ops.CONST, 1, 1, 0, Ops.WHILE, 0, 0, 0, Ops.SUB, 0, 0, 1, Ops.OUTPUT, 1, 0, 0,
                Ops.END, 0, 0, 0);
    }

    /** "how many values it had in all (k = -1), and the k-th value (from 0, up to 59)" */
    private static void promise17() {
        for (int many : new int[] {0, 1, 58, 59, 60, 61, 62, 120}) {
            ProgramSlices desk = countdown();
            desk.input(0, many);
            desk.slice(3, many % 2 == 0);
            Expect.same("no run yet", desk.seen(-1) + desk.seen(0), 0);
            Expect.same("run", desk.run(true, 600), 0);
            Expect.same("how many of " + many, desk.seen(-1), many);
            for (int k = 0; k <= 62; k++) {
                int due = k < many && k <= 59 ? many - 1 - k : 0;
                Expect.same("seen(" + k + ") of " + many, desk.seen(k), due);
            }
            for (int none : new int[] {MIN, MIN + 1, -60, -2, many, MAX}) {
                Expect.same("seen(" + none + ") of " + many, desk.seen(none), 0);
            }
        }
        ProgramSlices desk = countdown();
        desk.slice(3, false);
        desk.input(0, 100);
        desk.run(true, 600);
        desk.input(0, 2);
        desk.run(true, 600);
        Expect.same("only of the latest run", desk.seen(-1), 2);
        Expect.same("its last", desk.seen(1), 0);
        Expect.same("none of the run before", desk.seen(2) + desk.seen(10) + desk.seen(59), 0);
        ProgramSlices none = countdown();
        none.input(0, 3);
        none.run(true, 600);
        Expect.same("a run without a slice", none.seen(-1) + none.seen(0), 0);
        none.slice(3, false);
        Expect.same("a slice behind the run", none.seen(-1) + none.seen(0), 0);
    }

    /** "what xd became (CONST to LOAD), xb (STORE), xa (IF, WHILE, OUTPUT) .. nor has a CALL" */
    private static void promise17OfEachOp() {
        int[] values = {10, 3, 30, 13, 7, 0, 3, -5};
        int[] ops = {Ops.CONST, Ops.CONST, Ops.MUL, Ops.ADD, Ops.SUB, Ops.LESS, Ops.DIV, Ops.INPUT};
        ProgramSlices desk = new ProgramSlices();
        desk.input(0, -5);
        Ops.fill(desk, Ops.CONST, 0, 10, 0, Ops.CONST, 1, 3, 0);
        for (int i = 2; i < 7; i++) {
            desk.add(ops[i], 2, 0, 1);
        }
        Ops.fill(desk, Ops.INPUT, 2, 0, 0, Ops.STORE, 0, 1, 0, Ops.LOAD, 3, 1, 0, Ops.IF, 1, 0, 1,
                Ops.OUTPUT, 2, 1, 0, Ops.END, 0, 0, 0, Ops.CALL_1, 0, 0, 1, Ops.WHILE, 1, 0, 1, Ops.END, 0, 0, 0,
                Ops.PROC, 0, 0, 0, Ops.CONST, 0, 0, 0);
        Expect.same("build", desk.build(), 0);
        for (int i = 0; i < 8; i++) {
            one(desk, i, values[i]);
        }
        one(desk, 8, 10);
        one(desk, 9, 10);
        one(desk, 10, 10);
        one(desk, 11, 3);
        one(desk, 14, 0);
        one(desk, 17, 0);
        for (int k = 0; k < 2; k++) {
            desk.slice(13, k == 1);
            Expect.same("run", desk.run(true, 600), 0);
            Expect.same("a CALL has none", desk.seen(-1), 0);
            Expect.same("a CALL has no first", desk.seen(0), 0);
        }
        ProgramSlices div = Ops.built(
                Ops.CONST, 0, 2, 0, Ops.CONST, 1, 1, 0, Ops.WHILE, 0, 1, 0, Ops.DIV, 2, 1, 0, Ops.SUB, 0, 0, 1,
                Ops.END, 0, 0, 0);
        div.slice(3, false);
        Expect.same("a DIV that HALTS at last", div.run(true, 600), 1);
        Expect.same("it had two values before", div.seen(-1), 2);
        Expect.same("the first", div.seen(0), 0);
        Expect.same("the second", div.seen(1), 1);
        Expect.same("no third", div.seen(2), 0);
    }

    private static void one(ProgramSlices desk, int i, int due) {
        for (int k = 0; k < 2; k++) {
            desk.slice(i, k == 1);
            Expect.same("run", desk.run(true, 600), 0);
            Expect.same("how many values of " + i, desk.seen(-1), 1);
            Expect.same("the value of " + i, desk.seen(0), due);
            Expect.same("the next value of " + i, desk.seen(1), 0);
        }
    }

    /** "how many in all (k = -1), and the k-th (from 0, up to 39); 0 when there is no such" */
    private static void promise18() {
        for (int many : new int[] {0, 1, 38, 39, 40, 41, 42, 99}) {
            ProgramSlices desk = countdown();
            desk.input(0, many);
            Expect.same("no run yet", desk.written(1, -1) + desk.written(1, 0), 0);
            Expect.same("run", desk.run(true, 600), 0);
            Expect.same("how many of " + many, desk.written(1, -1), many);
            for (int k = 0; k <= 42; k++) {
                int due = k < many && k <= 39 ? many - 1 - k : 0;
                Expect.same("written(1, " + k + ") of " + many, desk.written(1, k), due);
            }
            for (int none : new int[] {MIN, MIN + 1, -40, -2, many, MAX}) {
                Expect.same("written(1, " + none + ") of " + many, desk.written(1, none), 0);
            }
            for (int other : new int[] {MIN, -1, 0, 2, 3, 4, MAX}) {
                Expect.same("written(" + other + ", -1)", desk.written(other, -1), 0);
                Expect.same("written(" + other + ", 0)", desk.written(other, 0), 0);
                Expect.same("written(" + other + ", 40)", desk.written(other, 40), 0);
                Expect.same("written(" + other + ", -41)", desk.written(other, -41), 0);
            }
        }
        ProgramSlices all = Ops.built(
                Ops.INPUT, 0, 0, 0, Ops.CONST, 1, 1, 0, Ops.WHILE, 0, 0, 0, Ops.OUTPUT, 0, 0, 0, Ops.OUTPUT, 1, 1, 0,
                Ops.OUTPUT, 2, 0, 0, Ops.OUTPUT, 3, 1, 0, Ops.SUB, 0, 0, 1, Ops.END, 0, 0, 0);
        all.input(0, 50);
        Expect.same("all channels full", all.run(true, 600), 0);
        for (int channel = 0; channel < 4; channel++) {
            Expect.same("how many", all.written(channel, -1), 50);
            Expect.same("the first", all.written(channel, 0), channel % 2 == 0 ? 50 : 1);
            Expect.same("the last that is kept", all.written(channel, 39), channel % 2 == 0 ? 11 : 1);
            Expect.same("one more", all.written(channel, 40), 0);
        }
        all.input(0, 1);
        all.run(true, 600);
        for (int channel = 0; channel < 4; channel++) {
            Expect.same("only of the latest run", all.written(channel, -1), 1);
            Expect.same("none of the run before", all.written(channel, 1) + all.written(channel, 39), 0);
        }
    }

    /** "by the levels and labels as they are; -1 when the program was not built or .. no LATTICE" */
    private static void promise19() {
        ProgramSlices desk = new ProgramSlices();
        Ops.fill(desk, Ops.INPUT, 0, 0, 0, Ops.OUTPUT, 0, 0, 0);
        Expect.same("not built", desk.check(), -1);
        desk.build();
        Expect.same("one level", desk.check(), 0);
        desk.levels(3);
        Expect.same("no LATTICE (2)", desk.check(), -1);
        desk.below(0, 2);
        desk.below(1, 2);
        Expect.same("no LATTICE (3)", desk.check(), -1);
        desk.below(0, 1);
        Expect.same("a LATTICE", desk.check(), 0);
        desk.label(false, 0, 2);
        Expect.same("a FLOW", desk.check(), 1);
        desk.label(true, 0, 1);
        Expect.same("still a FLOW", desk.check(), 1);
        desk.label(false, 0, 1);
        Expect.same("the same level", desk.check(), 0);
        desk.label(true, 0, 2);
        Expect.same("a higher one", desk.check(), 0);
        desk.below(2, 0);
        Expect.same("no LATTICE (1)", desk.check(), -1);
        desk.levels(1);
        Expect.same("one level again", desk.check(), 0);
        desk.clear();
        Expect.same("cleared", desk.check(), -1);
        Expect.same("no sink stays", two(Ops.built(Ops.INPUT, 0, 0, 0, Ops.IF, 9, 0, 0, Ops.END, 9, 9, 9)).check(), 0);
        ProgramSlices store = two(Ops.built(Ops.INPUT, 0, 0, 0, Ops.STORE, 9, 0, 0, Ops.LOAD, 0, 0, 0));
        store.label(false, 0, 1);
        Expect.same("a STORE is no sink", store.check(), 0);
    }

    /** "32 times its INPUT's number plus its sink's; -1 when there is none (as when check would answer -1)" */
    private static void promise20() {
        ProgramSlices desk = new ProgramSlices();
        Ops.fill(desk, Ops.INPUT, 0, 0, 0, Ops.INPUT, 1, 1, 0, Ops.ADD, 2, 0, 1, Ops.OUTPUT, 0, 2, 0,
                Ops.DIV, 3, 2, 1, Ops.OUTPUT, 1, 0, 0);
        Expect.same("not built", desk.flow(0), -1);
        desk.build();
        Expect.same("no FLOW", desk.flow(0), -1);
        two(desk);
        desk.label(false, 0, 1);
        desk.label(false, 1, 1);
        Expect.same("check", desk.check(), 6);
        int[] due = {3, 32 + 3, 4, 32 + 4, 5, 32 + 5};
        for (int j = 0; j < due.length; j++) {
            Expect.same("flow(" + j + ")", desk.flow(j), due[j]);
        }
        for (int none : new int[] {MIN, MIN + 1, -32, -1, 6, 7, 32, 1024, MAX}) {
            Expect.same("flow(" + none + ")", desk.flow(none), -1);
        }
        desk.label(true, 1, 1);
        Expect.same("less", desk.check(), 4);
        Expect.same("the last", desk.flow(3), 32 + 4);
        Expect.same("no more", desk.flow(4), -1);
        desk.below(1, 0);
        Expect.same("no LATTICE (1)", desk.flow(0), -1);
        desk.levels(2);
        Expect.same("no LATTICE (2)", desk.flow(0), -1);
        desk.levels(3);
        desk.below(0, 1);
        desk.below(2, 1);
        desk.label(false, 0, 1);
        Expect.same("no LATTICE (3)", desk.flow(0), -1);
        desk.below(0, 2);
        Expect.same("a LATTICE again", desk.flow(0), 3);
        desk.clear();
        Expect.same("cleared", desk.flow(0), -1);
    }

    /** "An object is used for at most 512 calls": the last of them answers as the first would. */
    private static void lastOf512Calls() {
        ProgramSlices desk = new ProgramSlices();
        int calls = 0;
        for (int round = 0; round < 14; round++) {
            for (int i = 0; i < 32; i++) {
                Expect.same("add " + i, desk.add(Ops.CONST, i & 3, round, 0), i);
            }
            Expect.same("build " + round, desk.build(), 0);
            Expect.same("run " + round, desk.run(true, 600), 0);
            desk.clear();
            calls += 35;
        }
        for (; calls < 506; calls++) {
            Expect.same("lattice()", desk.lattice(), 0);
        }
        desk.add(Ops.CONST, 2, 8, 0);
        desk.add(Ops.OUTPUT, 2, 2, 0);
        Expect.same("build at the end", desk.build(), 0);
        Expect.same("slice at the end", desk.slice(1, false), 2);
        Expect.same("run at the end", desk.run(false, 600), 0);
        Expect.same("call 512", desk.written(2, 0), 8);
    }
}
