import java.util.List;
import java.util.function.Consumer;

/**
 * Runs of calls that bring to light all that an object holds. Some of them change it, and an object
 * is used for at most 512 calls, so each run is asked of an object of its own.
 */
final class Questions {
    static final List<Consumer<Diary>> ALL = List.of(
            Questions::latestRun, Questions::sliceNow, Questions::sliceMadeFit, Questions::runOfSlice,
            diary -> dependences(diary, 0, 8), diary -> dependences(diary, 8, 16),
            diary -> dependences(diary, 16, 24), diary -> dependences(diary, 24, 32),
            Questions::summaries, Questions::oneMoreInstruction, Questions::roomLeft, Questions::builtNow,
            Questions::orderAndFlows, Questions::orderToldOn, Questions::labelsAnew, Questions::inputs);

    private Questions() {
    }

    private static void latestRun(Diary diary) {
        diary.steps();
        for (int k = -1; k <= 60; k++) {
            diary.seen(k);
        }
        for (int channel = 0; channel < 4; channel++) {
            for (int k = -1; k <= 40; k++) {
                diary.written(channel, k);
            }
        }
    }

    private static void sliceNow(Diary diary) {
        for (int k = 0; k < 32; k++) {
            diary.sliced(k);
        }
    }

    private static void sliceMadeFit(Diary diary) {
        diary.fit();
        sliceNow(diary);
        diary.run(false, 600);
        latestRun(diary);
    }

    private static void runOfSlice(Diary diary) {
        diary.run(false, 600);
        latestRun(diary);
    }

    private static void dependences(Diary diary, int first, int end) {
        for (int n = first; n < end; n++) {
            for (int m = 0; m < 32; m++) {
                diary.depends(n, m);
            }
        }
    }

    private static void summaries(Diary diary) {
        for (int i = 0; i < 32; i++) {
            for (int k = 0; k < 9; k++) {
                diary.summary(i, k / 3, k % 3);
            }
        }
    }

    private static void oneMoreInstruction(Diary diary) {
        diary.add(Ops.CONST, 3, 9, 0).build().slice(0, false);
        sliceNow(diary);
        diary.run(true, 600);
        latestRun(diary);
    }

    private static void roomLeft(Diary diary) {
        for (int k = 0; k < 34; k++) {
            diary.add(Ops.OUTPUT, k & 3, k & 3, 0);
        }
        diary.build().run(true, 600);
        latestRun(diary);
    }

    private static void builtNow(Diary diary) {
        diary.build().build().check();
        for (int i = 0; i < 32; i++) {
            diary.slice(i, false);
            diary.slice(i, true);
            diary.fit();
        }
        diary.run(true, 600);
        latestRun(diary);
    }

    private static void orderAndFlows(Diary diary) {
        diary.lattice().check();
        for (int j = -1; j < 60; j++) {
            diary.flow(j);
        }
        pureFlows(diary);
        for (int a = 0; a < 5; a++) {
            for (int b = 0; b < 5; b++) {
                diary.label(false, 0, a).label(true, 0, b).check();
            }
        }
    }

    /** Where the levels are no lattice it takes one more order to tell what the order was. */
    private static void orderToldOn(Diary diary) {
        for (int b = 4; b >= 0; b--) {
            for (int a = 0; a < b; a++) {
                diary.below(a, b).lattice();
            }
        }
        pureFlows(diary);
    }

    private static void labelsAnew(Diary diary) {
        for (int level = 0; level < 6; level++) {
            diary.label(true, 3, level).label(false, 2, level).check();
        }
        diary.levels(2).lattice().below(0, 1).lattice();
        pureFlows(diary);
    }

    /** Each input goes to each channel, so the flows tell the levels of all of them. */
    private static void pureFlows(Diary diary) {
        diary.clear();
        for (int k = 0; k < 4; k++) {
            diary.add(Ops.INPUT, k, k, 0);
        }
        for (int k = 0; k < 16; k++) {
            diary.add(Ops.OUTPUT, k / 4, k % 4, 0);
        }
        diary.build().check();
        for (int j = 0; j < 17; j++) {
            diary.flow(j);
        }
    }

    private static void inputs(Diary diary) {
        diary.run(true, 600);
        latestRun(diary);
        pureFlows(diary);
        diary.run(true, 600);
        for (int channel = 0; channel < 4; channel++) {
            for (int k = 0; k < 4; k++) {
                diary.written(channel, k);
            }
        }
    }
}
