/** "Terms": the checkpoint that is refused and its order; and the edges of promises 5, 8 and 12. */
public final class CheckpointBoundaryTest {
    private static final Check check = new Check();

    public static void main(String[] args) {
        refusedWhenAnyOfTheEightHasNoValue();
        refusedWithoutAStep();
        sectorsOfTheListNeedNoDisk();
        oneStepEachInOrder();
        marksAloneBecomeZero();
        listIsEmptyBehindIt();
        halvesTakeTurns();
        answersTheNewGeneration();
        writeOutOfRange();
        fiveWritesAndTheSixth();
        checkpointOfASixthWriteRefused();
        allStepsOfASixthWriteCount();
        sixthWriteOfASectorWithNoValue();
        writesOfTheList();
        check.end();
    }

    private static SealedSectors mounted() {
        SealedSectors x = new SealedSectors();
        x.mount();
        return x;
    }

    private static SealedSectors full() {
        SealedSectors x = mounted();
        for (int i = 0; i < 5; i++) {
            x.write(i, 100 + i);
        }
        return x;
    }

    private static void refusedWhenAnyOfTheEightHasNoValue() {
        check.about("when some sector (of all eight) has no value, it is refused");
        for (int s = 0; s < 8; s++) {
            for (int word = 0; word < 2; word++) {
                SealedSectors x = mounted();
                x.alter(Words.sector(0, s) + word, 1);
                check.due("checkpoint() with sector " + s + " altered", x.checkpoint(), -3);
                check.due("seal(1)", x.seal(1), 1);
                x.alter(Words.sector(0, s) + word, 1);
                check.due("checkpoint() with it mended", x.checkpoint(), 2);
                x.alter(Words.sector(1, s) + word, 1);
                check.due("checkpoint() in half 1 with sector " + s + " altered", x.checkpoint(), -3);
            }
        }
    }

    private static void refusedWithoutAStep() {
        check.about("it is refused, without a step");
        for (int armed = 0; armed <= 1; armed++) {
            SealedSectors x = mounted();
            x.write(1, 1);
            x.alter(Words.sector(0, 7), 1);
            for (int p = 51; p < 102; p++) {
                x.alter(p, 7 * p);
            }
            Shot before = Shot.of(x);
            x.arm(armed);
            check.due("checkpoint() armed " + armed, x.checkpoint(), -3);
            check.due("isOn()", x.isOn(), true);
            check.due("steps()", x.steps(), 4);
            check.due("writes()", x.writes(), 1);
            check.same("refused", Shot.of(x), before);
            check.due("sync() armed " + armed, x.sync(), armed == 0 ? -4 : 1);
        }
    }

    private static void sectorsOfTheListNeedNoDisk() {
        check.about("become what the sectors have, enciphered in g");
        SealedSectors x = mounted();
        x.write(6, 60);
        x.write(6, 61);
        x.alter(Words.sector(0, 6), 9);
        x.alter(Words.sector(0, 6) + 1, 9);
        check.due("checkpoint()", x.checkpoint(), 2);
        check.due("read(6)", x.read(6), 61);
        check.due("sound()", x.sound(), 255);
        int[] tree = Words.treeWords(1, 2, new long[] {0, 0, 0, 0, 0, 0, 61, 0});
        for (int i = 0; i < tree.length; i++) {
            check.due("peek(" + (51 + i) + ")", x.peek(51 + i), tree[i]);
        }
    }

    /** The place that the step of a checkpoint writes, counted from 0; -1 for the seal's. */
    private static int placeOfStep(int o, int step) {
        if (step < 5) {
            return 51 * o + 34 + 4 * step;
        }
        if (step < 21) {
            return 51 * o + step - 5;
        }
        return step < 36 ? 51 * o + 15 + 36 - step : -1;
    }

    private static void oneStepEachInOrder() {
        check.about("one step each: the marks of records 0 .. 4 ..; the sixteen words of the sectors there, "
                + "in order ..; nodes 15, 14, .. 1 there ..; the seal");
        for (int n = 0; n <= 37; n++) {
            SealedSectors x = mounted();
            x.write(3, 5);
            for (int p = 51; p < 102; p++) {
                x.alter(p, 0x12340000 + p);
            }
            Shot before = Shot.of(x);
            x.arm(n);
            check.due("checkpoint() armed " + n, x.checkpoint(), n < 37 ? -4 : 2);
            boolean[] changed = new boolean[Words.PLACES];
            for (int step = 0; step < Math.min(n, 36); step++) {
                changed[placeOfStep(1, step)] = true;
            }
            for (int p = 0; p < Words.PLACES; p++) {
                check.due("armed " + n + ": place " + p + " changed", x.peek(p) != before.disk[p], changed[p]);
            }
            check.due("seal(0) armed " + n, x.seal(0), n < 37 ? 0 : 1);
            check.due("steps() armed " + n, x.steps(), 4 + n);
        }
    }

    private static void marksAloneBecomeZero() {
        check.about("the marks of records 0 .. 4 of half o become 0");
        SealedSectors x = full();
        int[] old = new int[20];
        for (int i = 0; i < 20; i++) {
            old[i] = x.peek(31 + i);
        }
        x.checkpoint();
        for (int i = 0; i < 20; i++) {
            check.due("half 0 is left: peek(" + (31 + i) + ")", x.peek(31 + i), old[i]);
        }
        x.checkpoint();
        for (int i = 0; i < 20; i++) {
            check.due("peek(" + (31 + i) + ")", x.peek(31 + i), i % 4 == 3 ? 0 : old[i]);
        }
        check.due("mount()", x.mount(), 0);
    }

    private static void listIsEmptyBehindIt() {
        check.about("Then the list of writes is empty.");
        for (int n = 0; n <= 5; n++) {
            SealedSectors x = mounted();
            for (int i = 0; i < n; i++) {
                x.write(2, 20 + i);
            }
            x.sync();
            check.due("checkpoint() with " + n + " writes", x.checkpoint(), 2);
            check.due("writes()", x.writes(), 0);
            check.due("seal(3)", x.seal(3), 0);
            check.due("read(2)", x.read(2), n == 0 ? 0 : 19 + n);
            check.due("sync()", x.sync(), 0);
            x.alter(Words.sector(1, 2), 1);
            check.due("read(2) is looked up", x.read(2), -3);
            check.due("write()", x.write(3, 3), 1);
        }
    }

    private static void halvesTakeTurns() {
        check.about("A CHECKPOINT, to the other half o, with g = GENERATION + 1");
        SealedSectors x = mounted();
        for (int g = 2; g <= 6; g++) {
            check.due("checkpoint()", x.checkpoint(), g);
            check.due("seal(0)", x.seal(0), g % 2 == 0 ? 1 : 0);
            check.due("seal(1)", x.seal(1), g);
            check.due("seal(2)", x.seal(2), Words.treeWords(1 - g % 2, g, new long[8])[16]);
        }
    }

    private static void answersTheNewGeneration() {
        check.about("Answers the new generation. OFF; REFUSED; CUT.");
        SealedSectors x = new SealedSectors();
        check.due("checkpoint() while off", x.checkpoint(), -1);
        x.mount();
        check.due("checkpoint()", x.checkpoint(), 2);
        x.alter(51, 1);
        check.due("checkpoint() with no value", x.checkpoint(), -3);
        x.alter(51, 1);
        x.arm(36);
        check.due("checkpoint() cut", x.checkpoint(), -4);
        check.due("checkpoint() while off", x.checkpoint(), -1);
        x.mount();
        check.due("checkpoint() again", x.checkpoint(), 3);
    }

    private static void writeOutOfRange() {
        check.about("OFF; BAD when sector is not 0 .. 7 or value is negative.");
        SealedSectors x = new SealedSectors();
        check.due("write(0, 0) while off", x.write(0, 0), -1);
        x.mount();
        for (int s : new int[] {-1, 8, Integer.MIN_VALUE, Integer.MAX_VALUE}) {
            check.due("write(" + s + ", 0)", x.write(s, 0), -2);
            check.due("write(" + s + ", -1)", x.write(s, -1), -2);
        }
        for (long v : new long[] {-1, -4294967296L, Long.MIN_VALUE}) {
            check.due("write(0, " + v + ")", x.write(0, v), -2);
            check.due("write(7, " + v + ")", x.write(7, v), -2);
        }
        check.due("steps()", x.steps(), 0);
        check.due("write(0, 0)", x.write(0, 0), 1);
        check.due("write(7, greatest)", x.write(7, Long.MAX_VALUE), 2);
    }

    private static void fiveWritesAndTheSixth() {
        check.about("When the list has five writes, there is a checkpoint first");
        SealedSectors x = mounted();
        for (int i = 0; i < 16; i++) {
            check.due("write " + i, x.write(i % 8, i), i % 5 + 1);
            check.due("writes() behind write " + i, x.writes(), i % 5 + 1);
            check.due("seal(1) behind write " + i, x.seal(1), 1 + i / 5);
            check.due("steps() behind write " + i, x.steps(), 4 * (i + 1) + 37 * (i / 5));
        }
        SealedSectors y = full();
        check.due("mount() with five", y.mount(), 5);
        check.due("a sixth write behind mount", y.write(0, 1), 1);
        check.due("seal(1)", y.seal(1), 2);
    }

    private static void checkpointOfASixthWriteRefused() {
        check.about("when that is refused: REFUSED, and nothing is written");
        for (int s = 5; s < 8; s++) {
            SealedSectors x = full();
            x.alter(Words.sector(0, s) + 1, 1);
            Shot before = Shot.of(x);
            check.due("a sixth write()", x.write(0, 1), -3);
            check.due("isOn()", x.isOn(), true);
            check.due("writes()", x.writes(), 5);
            check.due("steps()", x.steps(), 20);
            check.due("read(0)", x.read(0), 100);
            check.same("refused", Shot.of(x), before);
            x.alter(Words.sector(0, s) + 1, 1);
            check.due("a sixth write() when mended", x.write(0, 1), 1);
        }
    }

    private static void allStepsOfASixthWriteCount() {
        check.about("there is a checkpoint first (all its steps count)");
        for (int n : new int[] {0, 4, 5, 20, 21, 35, 36, 37, 38, 40, 41}) {
            SealedSectors x = full();
            x.arm(n);
            check.due("a sixth write() armed " + n, x.write(5, 1), n < 41 ? -4 : 1);
            check.due("steps() armed " + n, x.steps(), 20 + n);
            check.due("isOn() armed " + n, x.isOn(), n == 41);
            check.due("seal(1) armed " + n, x.seal(1), n < 37 ? 1 : 2);
            check.due("mount() armed " + n, x.mount(), n < 37 ? 5 : n < 41 ? 0 : 1);
        }
    }

    private static void sixthWriteOfASectorWithNoValue() {
        check.about("Then, with n writes in the list, record n of half HALF is written");
        SealedSectors x = full();
        x.alter(Words.sector(0, 5), 1);
        check.due("the write itself does not heal the sector", x.write(5, 1), -3);
        SealedSectors y = mounted();
        y.alter(Words.sector(0, 5), 1);
        check.due("below five no sector is looked at", y.write(0, 1), 1);
        check.due("below five no sector is looked at", y.write(5, 1), 2);
        check.due("sound()", y.sound(), 255);
    }

    private static void writesOfTheList() {
        check.about("How many writes the list has (0 behind a checkpoint); OFF.");
        SealedSectors x = new SealedSectors();
        check.due("writes() while off", x.writes(), -1);
        x.mount();
        check.due("writes() of none", x.writes(), 0);
        for (int n = 1; n <= 5; n++) {
            x.write(4, 4);
            check.due("writes()", x.writes(), n);
        }
        x.checkpoint();
        check.due("writes() behind a checkpoint", x.writes(), 0);
        x.write(4, 4);
        x.arm(0);
        x.sync();
        check.due("writes() while off", x.writes(), -1);
    }
}
