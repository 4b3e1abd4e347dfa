import java.util.Random;

/** All promises: long runs of calls on many programs, each answer compared with the plain Model's. */
public final class ModelTest {
    private static final int OBJECTS = 3000;
    private static final int MOST_CALLS = 460;

    private final Random random;
    private final Programs programs;
    private final int seed;
    private final ProgramSlices desk = new ProgramSlices();
    private final Model model = new Model();
    private int calls;
    private int size;

    private ModelTest(int seed) {
        this.seed = seed;
        random = new Random(seed);
        programs = new Programs(random);
    }

    public static void main(String[] args) {
        for (int seed = 0; seed < OBJECTS; seed++) {
            new ModelTest(seed).go();
        }
        Expect.finish();
    }

    private void go() {
        while (calls < MOST_CALLS) {
            for (int[] line : programs.mostlyGood()) {
                add(line[0], line[1], line[2], line[3]);
            }
            callSome(8);
            same("build()", desk.build(), model.build());
            callSome(20 + random.nextInt(400));
            desk.clear();
            model.clear();
            calls++;
            callSome(6);
            desk.clear();
            model.clear();
            calls++;
            size = 0;
        }
    }

    private void same(String call, int got, int want) {
        calls++;
        Expect.same("object " + seed + ", call " + calls + ": " + call, got, want);
    }

    private void same(String call, boolean got, boolean want) {
        same(call, got ? 1 : 0, want ? 1 : 0);
    }

    private void add(int op, int d, int a, int b) {
        int want = model.add(op, d, a, b);
        same("add(" + op + ", " + d + ", " + a + ", " + b + ")", desk.add(op, d, a, b), want);
        size = Math.max(size, want + 1);
    }

    private void callSome(int most) {
        for (int k = 0; k < most && calls < MOST_CALLS; k++) {
            callOne();
        }
    }

    private void callOne() {
        int kind = random.nextInt(100);
        if (kind < 16) {
            int n = instruction();
            int m = instruction();
            same("depends(" + n + ", " + m + ")", desk.depends(n, m), model.depends(n, m));
        } else if (kind < 24) {
            int i = instruction();
            int to = random.nextInt(5) - 1;
            int of = random.nextInt(5) - 1;
            same("summary(" + i + ", " + to + ", " + of + ")", desk.summary(i, to, of), model.summary(i, to, of));
        } else if (kind < 34) {
            int i = instruction();
            boolean forward = random.nextInt(3) == 0;
            same("slice(" + i + ", " + forward + ")", desk.slice(i, forward), model.slice(i, forward));
        } else if (kind < 38) {
            same("fit()", desk.fit(), model.fit());
        } else if (kind < 46) {
            int k = instruction();
            same("sliced(" + k + ")", desk.sliced(k), model.sliced(k));
        } else if (kind < 50) {
            int k = random.nextInt(6) - 1;
            int v = programs.number();
            same("input(" + k + ", " + v + ")", desk.input(k, v), model.input(k, v));
        } else if (kind < 62) {
            boolean whole = random.nextBoolean();
            int fuel = random.nextInt(4) == 0 ? random.nextInt(40) - 2 : random.nextInt(603);
            same("run(" + whole + ", " + fuel + ")", desk.run(whole, fuel), model.run(whole, fuel));
        } else if (kind < 76) {
            callOfRun();
        } else {
            callOfLevels();
        }
    }

    private void callOfRun() {
        int kind = random.nextInt(3);
        if (kind == 0) {
            same("steps()", desk.steps(), model.steps());
        } else if (kind == 1) {
            int k = random.nextInt(random.nextInt(5) == 0 ? 70 : 6) - 2;
            same("seen(" + k + ")", desk.seen(k), model.seen(k));
        } else {
            int channel = random.nextInt(6) - 1;
            int k = random.nextInt(random.nextInt(5) == 0 ? 50 : 6) - 2;
            same("written(" + channel + ", " + k + ")", desk.written(channel, k), model.written(channel, k));
        }
    }

    private void callOfLevels() {
        int kind = random.nextInt(24);
        if (kind < 1) {
            int n = random.nextInt(8) - 1;
            same("levels(" + n + ")", desk.levels(n), model.levels(n));
        } else if (kind < 8) {
            int a = random.nextInt(7) - 1;
            int b = Math.min(5, a + random.nextInt(6) - (random.nextInt(9) == 0 ? 4 : 0));
            same("below(" + a + ", " + b + ")", desk.below(a, b), model.below(a, b));
        } else if (kind < 12) {
            boolean channel = random.nextBoolean();
            int k = random.nextInt(6) - 1;
            int level = random.nextInt(7) - 1;
            same("label(" + channel + ", " + k + ", " + level + ")",
                    desk.label(channel, k, level), model.label(channel, k, level));
        } else if (kind < 15) {
            same("lattice()", desk.lattice(), model.lattice());
        } else if (kind < 19) {
            same("check()", desk.check(), model.check());
        } else {
            int j = random.nextInt(12) - 2;
            same("flow(" + j + ")", desk.flow(j), model.flow(j));
        }
    }

    private int instruction() {
        return random.nextInt(20) == 0 ? random.nextInt(40) - 4 : random.nextInt(size + 1);
    }
}
