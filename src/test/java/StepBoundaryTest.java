/** "Terms": the step that does not happen; and the edges of promises 3, 4 and 14. */
public final class StepBoundaryTest {
    private static final Check check = new Check();

    public static void main(String[] args) {
        newObjectHasNothingArmed();
        stepAfterThoseDoesNotHappen();
        armedStepsGoOnOverManyCalls();
        nothingIsArmedAnyMore();
        callDoesNothingFurther();
        allElseIsForgotten();
        armZero();
        armInPlaceOfWhatWasArmed();
        armWhileOff();
        armNegative();
        armGreatest();
        isOnChangesByMountAndCutAlone();
        sealIsChangedTogetherByOneStep();
        stepsCountWhatHappenedEver();
        check.end();
    }

    private static SealedSectors mounted() {
        SealedSectors x = new SealedSectors();
        x.mount();
        return x;
    }

    private static void newObjectHasNothingArmed() {
        check.about("the power is off, nothing is armed, no step was made");
        SealedSectors x = new SealedSectors();
        check.due("isOn()", x.isOn(), false);
        check.due("writes()", x.writes(), -1);
        check.due("steps()", x.steps(), 0);
        check.due("mount()", x.mount(), 0);
        for (int i = 1; i <= 5; i++) {
            check.due("write " + i, x.write(i, i), i);
        }
        for (int i = 1; i <= 100; i++) {
            check.due("sync() " + i, x.sync(), 5);
        }
        check.due("steps()", x.steps(), 120);
    }

    private static void stepAfterThoseDoesNotHappen() {
        check.about("arm(n) lets n steps more happen; the step after those does not happen");
        for (int n = 0; n <= 6; n++) {
            SealedSectors x = mounted();
            x.sync();
            x.arm(n);
            for (int i = 1; i <= n; i++) {
                check.due("sync() " + i + " armed " + n, x.sync(), 0);
                check.due("isOn()", x.isOn(), true);
            }
            check.due("the sync() after those, armed " + n, x.sync(), -4);
            check.due("isOn()", x.isOn(), false);
            check.due("steps()", x.steps(), n + 1);
        }
    }

    private static void armedStepsGoOnOverManyCalls() {
        check.about("arm(n) lets n steps more happen");
        SealedSectors x = mounted();
        x.arm(4 + 1 + 37 + 1 + 2);
        check.due("write()", x.write(1, 1), 1);
        check.due("sync()", x.sync(), 1);
        check.due("checkpoint()", x.checkpoint(), 2);
        check.due("sync()", x.sync(), 0);
        check.due("write()", x.write(2, 2), -4);
        check.due("steps()", x.steps(), 45);
        check.due("peek(83) is written", x.peek(83) != 0, true);
        check.due("peek(84) is not", x.peek(84), 0);
        check.due("peek(85) is not", x.peek(85), 0);
    }

    private static void nothingIsArmedAnyMore() {
        check.about("the power is OFF from there on, and nothing is armed any more");
        SealedSectors x = mounted();
        x.arm(0);
        check.due("write()", x.write(1, 1), -4);
        check.due("isOn()", x.isOn(), false);
        check.due("write() while off", x.write(1, 1), -1);
        check.due("mount()", x.mount(), 0);
        for (int i = 1; i <= 100; i++) {
            check.due("sync() " + i, x.sync(), 0);
        }
        check.due("checkpoint()", x.checkpoint(), 2);
    }

    private static void callDoesNothingFurther() {
        check.about("The call in which that happens does nothing further and answers CUT.");
        for (int n = 0; n < 4; n++) {
            SealedSectors x = mounted();
            x.arm(n);
            check.due("write() armed " + n, x.write(7, Long.MAX_VALUE), -4);
            for (int i = 0; i < 4; i++) {
                check.due("armed " + n + ": word " + i + " is written", x.peek(31 + i) != 0, i < n);
            }
            check.due("steps() armed " + n, x.steps(), n);
            check.due("mount() armed " + n, x.mount(), 0);
        }
        cutBetweenTheCheckpointAndTheRecord();
    }

    private static void cutBetweenTheCheckpointAndTheRecord() {
        for (int n = 36; n <= 37; n++) {
            SealedSectors x = mounted();
            for (int i = 0; i < 5; i++) {
                x.write(i, i);
            }
            x.arm(n);
            check.due("sixth write() armed " + n, x.write(6, 6), -4);
            check.due("seal(1) armed " + n, x.seal(1), n == 36 ? 1 : 2);
            check.due("steps() armed " + n, x.steps(), 20 + n);
            for (int p = 82; p <= 85; p++) {
                check.due("peek(" + p + ") armed " + n, x.peek(p), 0);
            }
            check.due("mount() armed " + n, x.mount(), n == 36 ? 5 : 0);
            check.due("read(4) armed " + n, x.read(4), 4);
            check.due("read(6) armed " + n, x.read(6), 0);
        }
    }

    private static void allElseIsForgotten() {
        check.about("When the power is off, all that is not on the disk or in the seal is forgotten.");
        SealedSectors x = mounted();
        x.write(1, 10);
        x.write(2, 20);
        x.alter(Words.record(0, 0), 1);
        check.due("read(2) by the list", x.read(2), 20);
        x.arm(0);
        check.due("sync()", x.sync(), -4);
        check.due("writes()", x.writes(), -1);
        check.due("sound()", x.sound(), -1);
        check.due("read(2)", x.read(2), -1);
        check.due("mount()", x.mount(), 0);
        check.due("read(1)", x.read(1), 0);
        check.due("read(2)", x.read(2), 0);
        int[] words = Words.recordWords(31, 1, Words.firstChain(x.seal(2), 1), 5, 0, 50);
        x.write(5, 50);
        for (int i = 0; i < 4; i++) {
            check.due("the chain begins anew: word " + i, x.peek(31 + i), words[i]);
        }
    }

    private static void armZero() {
        check.about("Arms the power to fail after n steps more (0: before the next one");
        SealedSectors x = mounted();
        Shot before = Shot.of(x);
        check.due("arm(0)", x.arm(0), true);
        check.due("isOn() until a step is due", x.isOn(), true);
        check.due("read(0)", x.read(0), 0);
        check.due("checkpoint()", x.checkpoint(), -4);
        check.due("isOn()", x.isOn(), false);
        check.due("steps()", x.steps(), 0);
        check.same("cut before the first step", Shot.of(x), before);
    }

    private static void armInPlaceOfWhatWasArmed() {
        check.about("in place of what was armed");
        int[][] pairs = {{0, 1}, {1, 0}, {5, 2}, {2, 5}, {3, 3}};
        for (int[] pair : pairs) {
            SealedSectors x = mounted();
            x.arm(pair[0]);
            check.due("arm(" + pair[1] + ")", x.arm(pair[1]), true);
            for (int i = 1; i <= pair[1]; i++) {
                check.due("sync() " + i + " of " + pair[1] + " in place of " + pair[0], x.sync(), 0);
            }
            check.due("the step after those", x.sync(), -4);
        }
    }

    private static void armWhileOff() {
        check.about("answers true, whether the power is on or off");
        SealedSectors x = new SealedSectors();
        check.due("arm(1) while off", x.arm(1), true);
        check.due("isOn()", x.isOn(), false);
        check.due("sync() while off uses nothing up", x.sync(), -1);
        x.mount();
        check.due("sync()", x.sync(), 0);
        check.due("sync()", x.sync(), -4);
        check.due("arm(0) behind a cut", x.arm(0), true);
        x.mount();
        check.due("arm(2) while on", x.arm(2), true);
        check.due("sync()", x.sync(), 0);
    }

    private static void armNegative() {
        check.about("false when n is negative");
        for (int n : new int[] {-1, -2, Integer.MIN_VALUE}) {
            SealedSectors x = new SealedSectors();
            check.due("arm(" + n + ") while off", x.arm(n), false);
            x.mount();
            check.due("arm(" + n + ") while on", x.arm(n), false);
            check.due("sync() with nothing armed", x.sync(), 0);
            check.due("sync() with nothing armed", x.sync(), 0);
            x.arm(1);
            check.due("arm(" + n + ") while armed", x.arm(n), false);
            check.due("sync() armed 1", x.sync(), 0);
            check.due("sync() behind it", x.sync(), -4);
        }
    }

    private static void armGreatest() {
        check.about("Arms the power to fail after n steps more");
        SealedSectors x = mounted();
        check.due("arm(2147483647)", x.arm(Integer.MAX_VALUE), true);
        for (int g = 2; g <= 100; g++) {
            check.due("checkpoint()", x.checkpoint(), g);
        }
        check.due("isOn()", x.isOn(), true);
        check.due("steps()", x.steps(), 99 * 37);
    }

    private static void isOnChangesByMountAndCutAlone() {
        check.about("Whether the power is on.");
        SealedSectors x = new SealedSectors();
        x.write(0, 0);
        x.alter(31, 0);
        x.arm(4);
        check.due("isOn() before mount", x.isOn(), false);
        x.mount();
        check.due("isOn() behind mount", x.isOn(), true);
        x.write(8, 0);
        x.read(-1);
        x.write(1, 1);
        check.due("isOn() with no step left", x.isOn(), true);
        x.alter(0, 1);
        x.checkpoint();
        check.due("isOn() behind a refused checkpoint", x.isOn(), true);
        x.sync();
        check.due("isOn() behind a cut", x.isOn(), false);
        x.mount();
        x.sync();
        check.due("isOn()", x.isOn(), true);
        x.alter(31, 1);
        check.due("isOn() behind an alteration", x.isOn(), true);
        x.mount();
        check.due("isOn() behind a refused mount", x.isOn(), false);
    }

    private static void sealIsChangedTogetherByOneStep() {
        check.about("They are always changed together, by one step.");
        for (int n = 36; n <= 37; n++) {
            SealedSectors x = mounted();
            x.write(1, 1);
            x.write(1, 2);
            x.sync();
            int[] old = {0, 1, x.seal(2), 2};
            x.arm(n);
            check.due("checkpoint() armed " + n, x.checkpoint(), n == 36 ? -4 : 2);
            int[] next = {1, 2, x.peek(Words.node(1, 1)), 0};
            for (int k = 0; k < 4; k++) {
                check.due("seal(" + k + ") armed " + n, x.seal(k), n == 36 ? old[k] : next[k]);
            }
            check.due("steps() armed " + n, x.steps(), 9 + n);
        }
    }

    private static void stepsCountWhatHappenedEver() {
        check.about("How many steps there were (those that happened, ever).");
        SealedSectors x = new SealedSectors();
        check.due("steps() of a new object", x.steps(), 0);
        x.sync();
        check.due("steps() behind a sync() while off", x.steps(), 0);
        x.mount();
        x.write(1, 1);
        check.due("steps() behind a write", x.steps(), 4);
        x.arm(3);
        x.write(1, 2);
        check.due("the step that did not happen is none", x.steps(), 7);
        check.due("steps() asked again", x.steps(), 7);
        x.mount();
        check.due("steps() behind mount", x.steps(), 7);
        x.write(8, 1);
        x.alter(5, 0);
        x.alter(40, 7);
        check.due("alter is no step", x.steps(), 7);
        x.checkpoint();
        check.due("steps() behind a checkpoint", x.steps(), 44);
    }
}
