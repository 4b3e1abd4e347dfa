import java.util.ArrayList;
import java.util.List;
import java.util.Random;

/**
 * What slices and certificates are for. A fit slice sees what the whole program sees if that comes to
 * its EXIT, and two runs of a certified program write the same on channels that may not know the
 * input in which they differ. The document's words make this so, whatever the Model says.
 */
public final class MeaningTest {
    private static final int PROGRAMS = 30000;

    private final Random random;
    private final Programs programs;
    private final ProgramSlices desk = new ProgramSlices();
    private final String name;
    private int size;

    private MeaningTest(int seed) {
        random = new Random(seed);
        programs = new Programs(random);
        name = "program " + seed;
    }

    public static void main(String[] args) {
        for (int seed = 0; seed < PROGRAMS; seed++) {
            new MeaningTest(seed).go();
        }
        Expect.finish();
    }

    private void go() {
        for (int[] line : programs.good()) {
            size = Math.max(size, desk.add(line[0], line[1], line[2], line[3]) + 1);
        }
        if (desk.build() != 0) {
            return;
        }
        for (int k = 0; k < 4; k++) {
            desk.input(k, random.nextInt(7) - 2);
        }
        for (int k = 0; k < 2; k++) {
            compareSlice(random.nextInt(size));
        }
        compareSecrets(random.nextInt(4));
    }

    private void compareSlice(int i) {
        int whole = desk.slice(i, false) < 0 ? -1 : desk.run(true, 600);
        if (whole != 0) {
            return;
        }
        List<Integer> values = valuesSeen();
        int steps = desk.steps();
        desk.fit();
        Expect.same(name + ", slice of " + i + " comes to its EXIT", desk.run(false, 600), 0);
        Expect.same(name + ", slice of " + i + " sees the same", valuesSeen().equals(values), true);
        Expect.same(name + ", slice of " + i + " takes no more steps", desk.steps() <= steps, true);
    }

    private List<Integer> valuesSeen() {
        List<Integer> values = new ArrayList<>();
        for (int k = -1; k < 60; k++) {
            values.add(desk.seen(k));
        }
        return values;
    }

    private void compareSecrets(int secret) {
        desk.levels(2);
        desk.below(0, 1);
        desk.label(false, secret, 1);
        desk.label(true, 2, 1);
        desk.label(true, 3, 1);
        if (desk.check() != 0) {
            return;
        }
        int first = desk.run(true, 600);
        List<Integer> values = valuesWritten();
        desk.input(secret, random.nextInt(7) + 10);
        int second = desk.run(true, 600);
        if (first != 2 && second != 2) {
            Expect.same(name + " ends the same", second, first);
            Expect.same(name + " writes the same", valuesWritten().equals(values), true);
        }
    }

    private List<Integer> valuesWritten() {
        List<Integer> values = new ArrayList<>();
        for (int k = -1; k < 40; k++) {
            values.add(desk.written(0, k));
            values.add(desk.written(1, k));
        }
        return values;
    }
}
