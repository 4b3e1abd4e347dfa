import java.util.ArrayList;
import java.util.List;

/** An object of the class together with every call that was made on it and what that answered. */
final class Diary {
    private final ProgramSlices desk = new ProgramSlices();
    private final List<String> lines = new ArrayList<>();

    int length() {
        return lines.size();
    }

    String line(int k) {
        return lines.get(k);
    }

    int last() {
        String line = lines.get(lines.size() - 1);
        return Integer.parseInt(line.substring(line.lastIndexOf(' ') + 1));
    }

    private Diary note(String call, int answer) {
        lines.add(call + ": " + answer);
        return this;
    }

    private Diary note(String call, boolean answer) {
        return note(call, answer ? 1 : 0);
    }

    Diary add(int op, int d, int a, int b) {
        return note("add(" + op + ", " + d + ", " + a + ", " + b + ")", desk.add(op, d, a, b));
    }

    Diary addAll(int... numbers) {
        for (int i = 0; i + 3 < numbers.length; i += 4) {
            add(numbers[i], numbers[i + 1], numbers[i + 2], numbers[i + 3]);
        }
        return this;
    }

    Diary clear() {
        desk.clear();
        return note("clear()", 0);
    }

    Diary build() {
        return note("build()", desk.build());
    }

    Diary levels(int n) {
        return note("levels(" + n + ")", desk.levels(n));
    }

    Diary below(int a, int b) {
        return note("below(" + a + ", " + b + ")", desk.below(a, b));
    }

    Diary label(boolean channel, int k, int level) {
        return note("label(" + channel + ", " + k + ", " + level + ")", desk.label(channel, k, level));
    }

    Diary lattice() {
        return note("lattice()", desk.lattice());
    }

    Diary depends(int n, int m) {
        return note("depends(" + n + ", " + m + ")", desk.depends(n, m));
    }

    Diary summary(int i, int to, int of) {
        return note("summary(" + i + ", " + to + ", " + of + ")", desk.summary(i, to, of));
    }

    Diary slice(int i, boolean forward) {
        return note("slice(" + i + ", " + forward + ")", desk.slice(i, forward));
    }

    Diary fit() {
        return note("fit()", desk.fit());
    }

    Diary sliced(int k) {
        return note("sliced(" + k + ")", desk.sliced(k));
    }

    Diary input(int k, int v) {
        return note("input(" + k + ", " + v + ")", desk.input(k, v));
    }

    Diary run(boolean whole, int fuel) {
        return note("run(" + whole + ", " + fuel + ")", desk.run(whole, fuel));
    }

    Diary steps() {
        return note("steps()", desk.steps());
    }

    Diary seen(int k) {
        return note("seen(" + k + ")", desk.seen(k));
    }

    Diary written(int channel, int k) {
        return note("written(" + channel + ", " + k + ")", desk.written(channel, k));
    }

    Diary check() {
        return note("check()", desk.check());
    }

    Diary flow(int j) {
        return note("flow(" + j + ")", desk.flow(j));
    }
}
