import java.util.ArrayList;
import java.util.List;
import java.util.function.Consumer;

/**
 * "A call that is refused changes nothing": every way in which a promise refuses, in every state that
 * an object may be in; afterwards all questions are answered as by an object without that call.
 */
public final class RefusedTest {
    private static final int MIN = Integer.MIN_VALUE;
    private static final int MAX = Integer.MAX_VALUE;
    private static final int[] NOT_ONE_OF_FOUR = {MIN, -1, 4, MAX};

    private static final int NO_SLICE = 0;
    private static final int BACKWARD = 1;
    private static final int FORWARD = 2;

    /** Which of d, a and b an op names, as a letter each. */
    private static final String[] NAMES = {
        "d", "dab", "dab", "dab", "dab", "dab", "da", "da", "ab", "a", "", "a", "",
        "dab", "dab", "dab", "dab", "da", ""
    };

    private static final int[] PROGRAM = {
        Ops.INPUT, 0, 0, 0,
        Ops.INPUT, 1, 1, 0,
        Ops.CALL_1, 2, 0, 1,
        Ops.WHILE, 0, 0, 0,
        Ops.OUTPUT, 0, 0, 0,
        Ops.CONST, 3, 1, 0,
        Ops.SUB, 0, 0, 3,
        Ops.END, 0, 0, 0,
        Ops.IF, 0, 1, 0,
        Ops.STORE, 0, 1, 2,
        Ops.ELSE, 0, 0, 0,
        Ops.DIV, 2, 2, 1,
        Ops.END, 0, 0, 0,
        Ops.LOAD, 3, 1, 0,
        Ops.CALL_1, 0, 3, 3,
        Ops.OUTPUT, 3, 0, 0,
        Ops.PROC, 0, 0, 0,
        Ops.ADD, 0, 0, 1,
        Ops.OUTPUT, 2, 0, 0,
        Ops.LOAD, 1, 0, 0,
        Ops.INPUT, 2, 3, 0,
        Ops.DIV, 3, 0, 2
    };
    private static final int SIZE = PROGRAM.length / 4;
    private static final int[] NO_NODES = {7, 10, 12, 16, SIZE, SIZE + 1, 31};

    private final String name;
    private final Consumer<Diary> recipe;
    private final List<List<String>> due = new ArrayList<>();
    private boolean built = false;
    private boolean full = false;
    private int levels = 1;
    private int slice = NO_SLICE;
    private int buildAnswer = 0;

    private RefusedTest(String name, Consumer<Diary> recipe) {
        this.name = name;
        this.recipe = recipe;
        for (Consumer<Diary> questions : Questions.ALL) {
            Diary diary = new Diary();
            recipe.accept(diary);
            due.add(answers(diary, questions));
        }
    }

    public static void main(String[] args) {
        notBuilt();
        builtOnes();
        clearedOnes();
        Expect.finish();
    }

    private static void setInputs(Diary diary) {
        diary.input(0, 3).input(1, -2).input(2, 55).input(3, 7);
    }

    /** A diamond: 3 is the bottom, 0 the top. */
    private static void setLevels(Diary diary) {
        diary.levels(4).below(3, 2).below(3, 1).below(1, 0).below(2, 0);
        diary.label(false, 0, 1).label(false, 1, 2).label(false, 3, 3);
        diary.label(true, 0, 2).label(true, 1, 1).label(true, 2, 3);
    }

    private static void makeProgram(Diary diary) {
        setInputs(diary);
        setLevels(diary);
        diary.addAll(PROGRAM);
    }

    private static void notBuilt() {
        new RefusedTest("a new object", diary -> { }).refuseAll();
        RefusedTest some = new RefusedTest("instructions not built", RefusedTest::makeProgram);
        some.levels = 4;
        some.refuseAll();
        RefusedTest open = new RefusedTest("an IF that is open", diary -> {
            setInputs(diary);
            diary.levels(5).below(0, 1).below(2, 1).label(true, 0, 4);
            diary.addAll(Ops.INPUT, 0, 0, 0, Ops.IF, 0, 0, 0, Ops.OUTPUT, 0, 0, 0);
        });
        open.levels = 5;
        open.buildAnswer = -3 - 3;
        open.refuseAll();
        RefusedTest wrong = new RefusedTest("a build that was refused", diary -> {
            makeProgram(diary);
            diary.addAll(Ops.CALL_0, 0, 0, 0, Ops.CALL_2, 0, 0, 0).build();
        });
        wrong.levels = 4;
        wrong.buildAnswer = -3 - SIZE - 1;
        wrong.refuseAll();
        RefusedTest full = new RefusedTest("32 instructions", diary -> {
            makeProgram(diary);
            for (int i = SIZE; i < 32; i++) {
                diary.add(Ops.CONST, 1, i, 0);
            }
        });
        full.levels = 4;
        full.full = true;
        full.refuseAll();
        everyWrongBuild();
    }

    private static void everyWrongBuild() {
        wrongBuild("ELSE while nothing is open", 1, Ops.OUTPUT, Ops.ELSE);
        wrongBuild("ELSE of a WHILE", 1, Ops.WHILE, Ops.ELSE, Ops.END);
        wrongBuild("second ELSE", 2, Ops.IF, Ops.ELSE, Ops.ELSE, Ops.END);
        wrongBuild("END while nothing is open", 2, Ops.IF, Ops.END, Ops.END);
        wrongBuild("PROC while something is open", 1, Ops.IF, Ops.PROC, Ops.END);
        wrongBuild("a fifth procedure", 3, Ops.PROC, Ops.PROC, Ops.PROC, Ops.PROC);
        wrongBuild("a fifth IF", 4, Ops.IF, Ops.WHILE, Ops.IF, Ops.WHILE, Ops.IF);
        wrongBuild("a fifth WHILE", 4, Ops.IF, Ops.WHILE, Ops.IF, Ops.WHILE, Ops.WHILE);
        wrongBuild("a WHILE open at the end", 2, Ops.WHILE, Ops.OUTPUT);
        wrongBuild("a CALL of a procedure that is not there", 1, Ops.OUTPUT, Ops.CALL_1);
    }

    private static void wrongBuild(String what, int first, int... ops) {
        RefusedTest state = new RefusedTest(what, diary -> {
            for (int op : ops) {
                diary.add(op, 0, 0, 0);
            }
        });
        state.refuse("build()", -3 - first, Diary::build);
        // An object that held a built program has the old structure left inside.
        RefusedTest cleared = new RefusedTest(what + ", in an object that was cleared", diary -> {
            makeProgram(diary);
            diary.build().slice(15, false).run(true, 600).clear();
            for (int op : ops) {
                diary.add(op, 0, 0, 0);
            }
        });
        cleared.refuse("build()", -3 - first, Diary::build);
    }

    private static RefusedTest built(String name, Consumer<Diary> more) {
        RefusedTest state = new RefusedTest(name, diary -> {
            makeProgram(diary);
            diary.build();
            more.accept(diary);
        });
        state.built = true;
        state.levels = 4;
        return state;
    }

    private static void builtOnes() {
        built("built", diary -> { }).refuseAll();
        built("a whole run", diary -> diary.run(true, 600)).refuseAll();
        built("a tired run", diary -> diary.run(true, 9)).refuseAll();
        sliced("a backward slice", BACKWARD, diary -> diary.slice(4, false));
        sliced("a run of a slice", BACKWARD, diary -> diary.slice(4, false).run(false, 600));
        sliced("a whole run with a slice", BACKWARD, diary -> diary.slice(18, false).run(true, 600));
        sliced("a fit slice", BACKWARD, diary -> diary.slice(15, false).fit());
        sliced("a run of a fit slice", BACKWARD, diary -> diary.slice(18, false).fit().run(false, 600));
        sliced("a forward slice", FORWARD, diary -> diary.slice(1, true));
        sliced("a run with a forward slice", FORWARD, diary -> diary.slice(18, true).run(true, 600));
        RefusedTest noLattice = built("levels that are no lattice", diary ->
                diary.levels(3).below(0, 1).label(false, 0, 2).label(true, 2, 1).run(true, 600));
        noLattice.levels = 3;
        noLattice.refuseAll();
        RefusedTest halted = built("a run that halted", diary -> diary.slice(21, true).input(3, 0).run(true, 600));
        halted.slice = FORWARD;
        halted.refuseAll();
    }

    private static void sliced(String name, int slice, Consumer<Diary> more) {
        RefusedTest state = built(name, more);
        state.slice = slice;
        state.refuseAll();
    }

    private static void clearedOnes() {
        RefusedTest state = new RefusedTest("an object that was cleared", diary -> {
            makeProgram(diary);
            diary.build().slice(15, false).run(true, 600).clear();
        });
        state.levels = 4;
        state.refuseAll();
        RefusedTest less = new RefusedTest("fewer levels than before", diary ->
                diary.levels(5).below(0, 4).levels(2).below(0, 1).label(false, 0, 1));
        less.levels = 2;
        less.refuseAll();
    }

    private void refuseAll() {
        refuseAdds();
        refuseBuild();
        refuseLevels();
        refuseSlices();
        refuseInputs();
        refuseRuns();
    }

    private void refuseAdds() {
        for (int op : new int[] {MIN, -1, 19, 20, MAX}) {
            refuseAdd(op, 0, 0, 0);
        }
        for (int op = 0; op <= 18; op++) {
            for (int bad : NOT_ONE_OF_FOUR) {
                if (NAMES[op].contains("d")) {
                    refuseAdd(op, bad, 1, 1);
                }
                if (NAMES[op].contains("a")) {
                    refuseAdd(op, 1, bad, 1);
                }
                if (NAMES[op].contains("b")) {
                    refuseAdd(op, 1, 1, bad);
                }
            }
            if (built || full) {
                refuseAdd(op, 0, 0, 0);
            }
        }
    }

    private void refuseAdd(int op, int d, int a, int b) {
        refuse("add(" + op + ", " + d + ", " + a + ", " + b + ")", -1, diary -> diary.add(op, d, a, b));
    }

    private void refuseBuild() {
        if (built) {
            refuse("build()", -2, Diary::build);
        } else if (buildAnswer != 0) {
            refuse("build()", buildAnswer, Diary::build);
        }
    }

    private void refuseLevels() {
        for (int n : new int[] {MIN, -1, 0, 6, 7, MAX}) {
            refuse("levels(" + n + ")", 0, diary -> diary.levels(n));
        }
        for (int bad : new int[] {MIN, -1, levels, 5, 31, 32, MAX}) {
            refuse("below(" + bad + ", 0)", 0, diary -> diary.below(bad, 0));
            refuse("below(0, " + bad + ")", 0, diary -> diary.below(0, bad));
            refuse("below(" + bad + ", " + bad + ")", 0, diary -> diary.below(bad, bad));
            refuseLabel(0, bad);
            refuseLabel(3, bad);
        }
        for (int bad : NOT_ONE_OF_FOUR) {
            refuseLabel(bad, 0);
            refuseLabel(bad, levels - 1);
        }
    }

    private void refuseLabel(int k, int level) {
        refuse("label(true, " + k + ", " + level + ")", 0, diary -> diary.label(true, k, level));
        refuse("label(false, " + k + ", " + level + ")", 0, diary -> diary.label(false, k, level));
    }

    private void refuseSlices() {
        for (int bad : new int[] {MIN, -32, -1, 32, 33, MAX}) {
            refuseSlice(bad);
        }
        for (int bad : NO_NODES) {
            refuseSlice(bad);
        }
        if (!built) {
            refuseSlice(0);
            refuseSlice(4);
        }
        if (slice != BACKWARD) {
            refuse("fit()", -1, Diary::fit);
        }
    }

    private void refuseSlice(int i) {
        refuse("slice(" + i + ", false)", -1, diary -> diary.slice(i, false));
        refuse("slice(" + i + ", true)", -1, diary -> diary.slice(i, true));
    }

    private void refuseInputs() {
        for (int bad : NOT_ONE_OF_FOUR) {
            refuse("input(" + bad + ", 99)", 0, diary -> diary.input(bad, 99));
        }
    }

    private void refuseRuns() {
        for (int bad : new int[] {MIN, -1, 601, MAX}) {
            refuse("run(true, " + bad + ")", -1, diary -> diary.run(true, bad));
            refuse("run(false, " + bad + ")", -1, diary -> diary.run(false, bad));
        }
        for (int fuel : new int[] {0, 1, 600}) {
            if (!built) {
                refuse("run(true, " + fuel + ")", -1, diary -> diary.run(true, fuel));
            }
            if (slice != BACKWARD) {
                refuse("run(false, " + fuel + ")", -1, diary -> diary.run(false, fuel));
            }
        }
    }

    /** The call is answered so, and then all questions as if it had not been made. */
    private void refuse(String call, int answer, Consumer<Diary> refused) {
        for (int q = 0; q < Questions.ALL.size(); q++) {
            Diary diary = new Diary();
            recipe.accept(diary);
            refused.accept(diary);
            Expect.same(name + ": " + call, diary.last(), answer);
            compare(name + ": after " + call, answers(diary, Questions.ALL.get(q)), due.get(q));
        }
    }

    private static List<String> answers(Diary diary, Consumer<Diary> questions) {
        int before = diary.length();
        questions.accept(diary);
        Expect.same("calls on one object", diary.length() <= 512, true);
        List<String> lines = new ArrayList<>();
        for (int k = before; k < diary.length(); k++) {
            lines.add(diary.line(k));
        }
        return lines;
    }

    /** Only the first difference is told, since the others follow from it. */
    private static void compare(String when, List<String> got, List<String> want) {
        Expect.same(when + ", how many answers", got.size(), want.size());
        for (int k = 0; k < got.size() && k < want.size(); k++) {
            if (!got.get(k).equals(want.get(k))) {
                Expect.same(when + ", " + got.get(k) + " (due " + want.get(k) + "), it changed nothing", false, true);
                return;
            }
        }
    }
}
