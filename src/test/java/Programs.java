import java.util.ArrayList;
import java.util.List;
import java.util.Random;

/** Makes programs, the same for the same seed; most of them can be built. */
final class Programs {
    private static final int[] PLAIN = {0, 1, 2, 3, 4, 5, 6, 6, 7, 7, 8, 8, 17, 17};

    private final Random random;

    Programs(Random random) {
        this.random = random;
    }

    int number() {
        int kind = random.nextInt(8);
        if (kind == 0) {
            return random.nextInt();
        }
        return kind == 1 ? Integer.MIN_VALUE : random.nextInt(9) - 3;
    }

    /** Lines of op, d, a, b; CALLs are of procedures that are there, and nothing stays open. */
    List<int[]> good() {
        List<int[]> lines = new ArrayList<>();
        int procedures = 1 + random.nextInt(4);
        int left = 4 + random.nextInt(29);
        for (int p = 0; p < procedures; p++) {
            if (p > 0) {
                lines.add(new int[] {Ops.PROC, number(), number(), number()});
            }
            block(lines, (left - procedures) / procedures + (p == 0 ? 2 : 0), 0, procedures);
        }
        return lines;
    }

    /** Some have an operand that is not allowed, or one more line anywhere. */
    List<int[]> mostlyGood() {
        List<int[]> lines = good();
        for (int[] line : lines) {
            if (random.nextInt(50) == 0) {
                line[1 + random.nextInt(3)] = random.nextBoolean() ? -1 : 4 + random.nextInt(50);
            }
        }
        if (random.nextInt(12) == 0) {
            lines.add(random.nextInt(lines.size() + 1), line(random.nextInt(21) - 1));
        }
        return lines;
    }

    private void block(List<int[]> lines, int most, int depth, int procedures) {
        int end = lines.size() + most;
        while (lines.size() < end) {
            int room = end - lines.size();
            if (depth < 4 && room >= 2 && random.nextInt(5) == 0) {
                branch(lines, room, depth, procedures);
            } else if (random.nextInt(5) == 0) {
                lines.add(line(Ops.CALL_0 + random.nextInt(procedures)));
            } else {
                lines.add(line(PLAIN[random.nextInt(PLAIN.length)]));
            }
        }
    }

    private void branch(List<int[]> lines, int room, int depth, int procedures) {
        boolean loop = random.nextInt(3) == 0;
        int inner = random.nextInt(room - 1) / 2;
        lines.add(line(loop ? Ops.WHILE : Ops.IF));
        block(lines, inner, depth + 1, procedures);
        if (!loop && room - 2 > inner && random.nextBoolean()) {
            lines.add(line(Ops.ELSE));
            block(lines, Math.min(room - 3 - inner, inner), depth + 1, procedures);
        }
        lines.add(line(Ops.END));
    }

    private int[] line(int op) {
        int a = op == Ops.CONST ? number() : random.nextInt(4);
        return new int[] {op, random.nextInt(4), a, random.nextInt(4)};
    }
}
