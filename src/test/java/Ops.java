/** Names for the ops, and short ways to make an object that holds a program. */
final class Ops {
    static final int CONST = 0;
    static final int ADD = 1;
    static final int SUB = 2;
    static final int MUL = 3;
    static final int LESS = 4;
    static final int DIV = 5;
    static final int INPUT = 6;
    static final int LOAD = 7;
    static final int STORE = 8;
    static final int IF = 9;
    static final int ELSE = 10;
    static final int WHILE = 11;
    static final int END = 12;
    static final int CALL_0 = 13;
    static final int CALL_1 = 14;
    static final int CALL_2 = 15;
    static final int CALL_3 = 16;
    static final int OUTPUT = 17;
    static final int PROC = 18;

    private Ops() {
    }

    /** Adds instructions, four numbers each: op, d, a, b. */
    static void fill(ProgramSlices desk, int... numbers) {
        for (int i = 0; i + 3 < numbers.length; i += 4) {
            desk.add(numbers[i], numbers[i + 1], numbers[i + 2], numbers[i + 3]);
        }
    }

    /** A new object with the program, built; the test fails if it can't be built. */
    static ProgramSlices built(int... numbers) {
        ProgramSlices desk = new ProgramSlices();
        fill(desk, numbers);
        Expect.same("build()", desk.build(), 0);
        return desk;
    }

    /** The slice as a mask of instructions. */
    static long mask(ProgramSlices desk) {
        long mask = 0;
        for (int k = 0; k < 32; k++) {
            if (desk.sliced(k)) {
                mask |= 1L << k;
            }
        }
        return mask;
    }

    /** A mask of the numbered instructions. */
    static long of(int... numbers) {
        long mask = 0;
        for (int k : numbers) {
            mask |= 1L << k;
        }
        return mask;
    }
}
