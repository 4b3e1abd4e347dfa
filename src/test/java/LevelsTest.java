/** Promises 5 to 8: levels, below, label, lattice. */
public final class LevelsTest {
    public static void main(String[] args) {
        levelsLimits();
        levelsReset();
        levelsRefusedKeep();
        belowLimits();
        belowThroughOthers();
        labelLimits();
        latticeShapes();
        latticeFirstThatHolds();
        Expect.finish();
    }

    private static ProgramSlices order(int n, int... pairs) {
        ProgramSlices desk = new ProgramSlices();
        desk.levels(n);
        for (int i = 0; i + 1 < pairs.length; i += 2) {
            Expect.same("below", desk.below(pairs[i], pairs[i + 1]), true);
        }
        return desk;
    }

    private static void levelsLimits() {
        ProgramSlices desk = new ProgramSlices();
        for (int n : new int[] {Integer.MIN_VALUE, -1, 0, 6, 7, Integer.MAX_VALUE}) {
            Expect.same("levels(" + n + ")", desk.levels(n), false);
        }
        for (int n = 1; n <= 5; n++) {
            Expect.same("levels(" + n + ")", desk.levels(n), true);
            Expect.same("last level of " + n, desk.below(n - 1, n - 1), true);
            Expect.same("no more than " + n, desk.below(0, n), false);
            Expect.same("lattice of " + n, desk.lattice(), n == 1 ? 0 : 2);
        }
    }

    private static void levelsReset() {
        ProgramSlices desk = Ops.built(Ops.INPUT, 0, 1, 0, Ops.OUTPUT, 2, 0, 0);
        desk.levels(2);
        desk.below(0, 1);
        desk.label(false, 1, 1);
        Expect.same("check", desk.check(), 1);
        Expect.same("levels again", desk.levels(2), true);
        Expect.same("the order is gone", desk.lattice(), 2);
        desk.below(0, 1);
        Expect.same("the input's label is gone", desk.check(), 0);
        desk.label(false, 1, 1);
        desk.label(true, 2, 1);
        desk.levels(2);
        desk.below(0, 1);
        desk.label(false, 1, 1);
        Expect.same("the channel's label is gone", desk.check(), 1);
        desk.levels(5);
        desk.levels(1);
        Expect.same("one level", desk.lattice(), 0);
        desk.levels(5);
        Expect.same("no order of before", desk.lattice(), 2);
    }

    private static void levelsRefusedKeep() {
        ProgramSlices desk = order(2, 0, 1);
        Expect.same("levels(6)", desk.levels(6), false);
        Expect.same("still two with an order", desk.lattice(), 0);
        Expect.same("levels(0)", desk.levels(0), false);
        Expect.same("still level 1", desk.label(true, 0, 1), true);
    }

    private static void belowLimits() {
        ProgramSlices desk = order(3);
        for (int bad : new int[] {Integer.MIN_VALUE, -1, 3, 5, 32, Integer.MAX_VALUE}) {
            Expect.same("below(" + bad + ", 0)", desk.below(bad, 0), false);
            Expect.same("below(0, " + bad + ")", desk.below(0, bad), false);
        }
        Expect.same("nothing told", desk.lattice(), 2);
        Expect.same("below itself", desk.below(1, 1), true);
        Expect.same("still no order", desk.lattice(), 2);
    }

    private static void belowThroughOthers() {
        Expect.same("a chain told upward", order(4, 0, 1, 1, 2, 2, 3).lattice(), 0);
        Expect.same("a chain told downward", order(4, 2, 3, 1, 2, 0, 1).lattice(), 0);
        Expect.same("a chain told from both ends", order(5, 0, 1, 3, 4, 1, 2, 2, 3).lattice(), 0);
        Expect.same("a circle of three", order(3, 0, 1, 1, 2, 2, 0).lattice(), 1);
        Expect.same("a circle told with the middle last", order(4, 3, 0, 0, 1, 2, 3, 1, 2).lattice(), 1);
        ProgramSlices desk = Ops.built(Ops.INPUT, 0, 0, 0, Ops.OUTPUT, 0, 0, 0);
        desk.levels(4);
        desk.below(2, 3);
        desk.below(0, 1);
        desk.below(1, 2);
        desk.label(true, 0, 3);
        Expect.same("0 is below 3", desk.check(), 0);
        desk.label(false, 0, 3);
        desk.label(true, 0, 0);
        Expect.same("3 is not below 0", desk.check(), 1);
    }

    private static void labelLimits() {
        ProgramSlices desk = order(2, 0, 1);
        for (int bad : new int[] {Integer.MIN_VALUE, -1, 4, 5, Integer.MAX_VALUE}) {
            Expect.same("label(true, " + bad + ", 0)", desk.label(true, bad, 0), false);
            Expect.same("label(false, " + bad + ", 0)", desk.label(false, bad, 0), false);
        }
        for (int bad : new int[] {Integer.MIN_VALUE, -1, 2, 4, Integer.MAX_VALUE}) {
            Expect.same("label(true, 0, " + bad + ")", desk.label(true, 0, bad), false);
            Expect.same("label(false, 3, " + bad + ")", desk.label(false, 3, bad), false);
        }
        for (int k = 0; k < 4; k++) {
            ProgramSlices one = Ops.built(Ops.INPUT, 0, k, 0, Ops.OUTPUT, k, 0, 0);
            one.levels(2);
            one.below(0, 1);
            Expect.same("label of an input", one.label(false, k, 1), true);
            Expect.same("refused label", one.label(false, k, 2), false);
            Expect.same("check by the input", one.check(), 1);
            Expect.same("label of a channel", one.label(true, k, 1), true);
            Expect.same("check by the channel", one.check(), 0);
            Expect.same("label again", one.label(true, k, 0), true);
            Expect.same("check by the latest label", one.check(), 1);
        }
    }

    private static void latticeShapes() {
        Expect.same("a diamond", order(4, 0, 1, 0, 2, 1, 3, 2, 3).lattice(), 0);
        Expect.same("a diamond upside down", order(4, 3, 1, 3, 2, 1, 0, 2, 0).lattice(), 0);
        Expect.same("M3", order(5, 0, 1, 0, 2, 0, 3, 1, 4, 2, 4, 3, 4).lattice(), 0);
        Expect.same("N5", order(5, 0, 1, 1, 2, 0, 3, 2, 4, 3, 4).lattice(), 0);
        Expect.same("no top", order(3, 0, 1, 0, 2).lattice(), 2);
        Expect.same("no bottom", order(3, 1, 0, 2, 0).lattice(), 3);
        Expect.same("two tops above two", order(5, 0, 1, 0, 2, 1, 3, 1, 4, 2, 3, 2, 4).lattice(), 2);
        Expect.same("two upper bounds, the lesser is least", order(5, 0, 1, 0, 2, 1, 3, 2, 3, 3, 4).lattice(), 0);
        Expect.same("two bottoms below a chain", order(4, 0, 2, 1, 2, 2, 3).lattice(), 3);
        Expect.same("one alone", order(3, 0, 1).lattice(), 2);
    }

    private static void latticeFirstThatHolds() {
        Expect.same("1 before 2", order(3, 0, 1, 1, 0).lattice(), 1);
        Expect.same("1 before 3", order(4, 0, 1, 1, 0, 0, 2, 3, 2).lattice(), 1);
        Expect.same("2 before 3", order(4, 0, 2, 0, 3, 1, 2, 1, 3).lattice(), 2);
        Expect.same("1 of the last two", order(5, 0, 1, 1, 2, 2, 3, 3, 4, 4, 3).lattice(), 1);
    }
}
