import java.util.Random;

/**
 * Numbers of every size as arguments of every call, in every state: no call throws, and each answers
 * what the plain Model does.
 */
public final class WildTest {
    private static final int OBJECTS = 1500;
    private static final int[] NUMBERS = {
        Integer.MIN_VALUE, Integer.MIN_VALUE + 1, -1000000, -601, -600, -129, -128, -65, -64, -63, -33, -32, -31,
        -13, -8, -7, -6, -5, -4, -3, -2, -1, 0, 1, 2, 3, 4, 5, 6, 7, 8, 12, 13, 16, 17, 18, 19, 20, 30, 31, 32, 33,
        39, 40, 41, 58, 59, 60, 61, 63, 64, 65, 127, 128, 255, 256, 599, 600, 601, 65535, 65536, 1000000,
        Integer.MAX_VALUE - 1, Integer.MAX_VALUE
    };

    private final Random random;
    private final String name;
    private final ProgramSlices desk = new ProgramSlices();
    private final Model model = new Model();
    private int calls = 0;

    private WildTest(int seed) {
        random = new Random(seed);
        name = "object " + seed;
    }

    public static void main(String[] args) {
        for (int seed = 0; seed < OBJECTS; seed++) {
            new WildTest(seed).go();
        }
        Expect.finish();
    }

    private void go() {
        for (int[] line : new Programs(random).good()) {
            desk.add(line[0], line[1], line[2], line[3]);
            model.add(line[0], line[1], line[2], line[3]);
            calls++;
        }
        while (calls < 500) {
            int kind = random.nextInt(19);
            try {
                if (kind < 9) {
                    changeOne(kind);
                } else {
                    askOne(kind);
                }
            } catch (RuntimeException thrown) {
                Expect.same(name + ", kind " + kind + " threw " + thrown, true, false);
                return;
            }
            calls++;
        }
    }

    private int number() {
        return random.nextInt(3) == 0 ? random.nextInt(33) : NUMBERS[random.nextInt(NUMBERS.length)];
    }

    /** Mostly one of four, so that the calls are not refused for another argument. */
    private int small() {
        return random.nextInt(6) == 0 ? number() : random.nextInt(5);
    }

    private void same(String call, int got, int want) {
        Expect.same(name + ": " + call, got, want);
    }

    private void same(String call, boolean got, boolean want) {
        Expect.same(name + ": " + call, got, want);
    }

    private void changeOne(int kind) {
        int x = number();
        int y = small();
        int z = small();
        boolean flag = random.nextBoolean();
        if (kind == 0) {
            int w = small();
            same("add", desk.add(x, y, z, w), model.add(x, y, z, w));
        } else if (kind == 1) {
            same("build", desk.build(), model.build());
        } else if (kind == 2 && random.nextInt(12) == 0) {
            desk.clear();
            model.clear();
        } else if (kind == 3 && random.nextInt(3) == 0) {
            same("levels", desk.levels(z), model.levels(z));
        } else if (kind == 4) {
            same("below", desk.below(y, z), model.below(y, z));
        } else if (kind == 5) {
            same("label", desk.label(flag, y, z), model.label(flag, y, z));
        } else if (kind == 6) {
            same("slice", desk.slice(x, flag), model.slice(x, flag));
        } else if (kind == 7) {
            same("input", desk.input(y, x), model.input(y, x));
        } else if (kind == 8) {
            same("run", desk.run(flag, x), model.run(flag, x));
        }
    }

    private void askOne(int kind) {
        int x = number();
        int y = number();
        if (kind == 9) {
            same("depends", desk.depends(x, y), model.depends(x, y));
        } else if (kind == 10) {
            int of = small();
            int to = small();
            same("summary", desk.summary(x, to, of), model.summary(x, to, of));
        } else if (kind == 11) {
            same("fit", desk.fit(), model.fit());
        } else if (kind == 12) {
            same("sliced", desk.sliced(x), model.sliced(x));
        } else if (kind == 13) {
            same("steps", desk.steps(), model.steps());
        } else if (kind == 14) {
            same("seen", desk.seen(x), model.seen(x));
        } else if (kind == 15) {
            int channel = small();
            same("written", desk.written(channel, x), model.written(channel, x));
        } else if (kind == 16) {
            same("check", desk.check(), model.check());
        } else if (kind == 17) {
            same("flow", desk.flow(x), model.flow(x));
        } else {
            same("lattice", desk.lattice(), model.lattice());
        }
    }
}
