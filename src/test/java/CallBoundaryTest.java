/** The edges of promises 7, 9, 10 and 11, and of the 512 calls. */
public final class CallBoundaryTest {
    private static final Check check = new Check();

    public static void main(String[] args) {
        syncWhenCountIsThatAlready();
        syncOfEveryNumber();
        syncLooksAtNoDisk();
        syncOffAndCut();
        countFromNoneToFiveAndBack();
        alterIsNoStep();
        alterWhileOnAndOff();
        alterNeverTheSeal();
        alterOutOfRange();
        peekOutOfRange();
        sealOutOfRange();
        manyCheckpoints();
        manyWrites();
        check.end();
    }

    private static SealedSectors mounted() {
        SealedSectors x = new SealedSectors();
        x.mount();
        return x;
    }

    private static void syncWhenCountIsThatAlready() {
        check.about("Changes the seal by one step (also if COUNT is that already");
        SealedSectors x = mounted();
        check.due("sync() of none", x.sync(), 0);
        check.due("steps()", x.steps(), 1);
        x.write(1, 1);
        x.sync();
        check.due("sync() again", x.sync(), 1);
        check.due("steps()", x.steps(), 7);
        x.arm(0);
        check.due("sync() again, cut", x.sync(), -4);
        check.due("steps()", x.steps(), 7);
    }

    private static void syncOfEveryNumber() {
        check.about("COUNT becoming the number of writes in the list, and answers that number");
        for (int n = 0; n <= 5; n++) {
            SealedSectors x = mounted();
            for (int i = 0; i < n; i++) {
                x.write(3, i);
            }
            Shot want = Shot.of(x);
            want.seal[3] = n;
            check.due("seal(3) before", x.seal(3), 0);
            check.due("sync() of " + n, x.sync(), n);
            check.due("writes()", x.writes(), n);
            check.due("steps()", x.steps(), 4 * n + 1);
            check.same("sync of " + n, Shot.of(x), want);
        }
    }

    private static void syncLooksAtNoDisk() {
        check.about("the disk is not looked at");
        SealedSectors x = mounted();
        x.write(1, 1);
        x.write(2, 2);
        for (int p = 0; p < Words.PLACES; p++) {
            x.alter(p, -1);
        }
        Shot want = Shot.of(x);
        want.seal[3] = 2;
        check.due("sync()", x.sync(), 2);
        check.same("sync with every word altered", Shot.of(x), want);
        check.due("mount()", x.mount(), -3);
    }

    private static void syncOffAndCut() {
        check.about("OFF; CUT.");
        SealedSectors x = new SealedSectors();
        x.arm(0);
        check.due("sync() while off", x.sync(), -1);
        x.mount();
        x.write(1, 1);
        check.due("sync() while off", x.sync(), -1);
        x.mount();
        x.write(1, 1);
        Shot before = Shot.of(x);
        x.arm(0);
        check.due("sync() cut", x.sync(), -4);
        check.same("the seal stays", Shot.of(x), before);
    }

    private static void countFromNoneToFiveAndBack() {
        check.about("COUNT (0 .. 5)");
        SealedSectors x = mounted();
        for (int i = 1; i <= 5; i++) {
            x.write(i, i);
            x.sync();
            check.due("seal(3)", x.seal(3), i);
        }
        check.due("a sixth write", x.write(6, 6), 1);
        check.due("seal(3) behind the checkpoint", x.seal(3), 0);
        check.due("sync()", x.sync(), 1);
        check.due("seal(3)", x.seal(3), 1);
        check.due("checkpoint()", x.checkpoint(), 3);
        check.due("seal(3)", x.seal(3), 0);
    }

    private static void alterIsNoStep() {
        check.about("the word at place p becomes word ^ bits (that is no step; bits may be 0)");
        for (int bits : new int[] {0, 1, Integer.MIN_VALUE, -1}) {
            SealedSectors x = mounted();
            x.arm(0);
            for (int p = 0; p < Words.PLACES; p++) {
                int word = x.peek(p);
                check.due("alter(" + p + ", " + bits + ")", x.alter(p, bits), true);
                check.due("peek(" + p + ")", x.peek(p), word ^ bits);
            }
            check.due("isOn()", x.isOn(), true);
            check.due("steps()", x.steps(), 0);
            check.due("what is armed stays", x.sync(), -4);
        }
    }

    private static void alterWhileOnAndOff() {
        check.about("True, whether the power is on or off");
        SealedSectors x = new SealedSectors();
        for (int p : new int[] {0, 50, 51, 101}) {
            int word = x.peek(p);
            check.due("alter(" + p + ", 5) while off", x.alter(p, 5), true);
            check.due("peek(" + p + ")", x.peek(p), word ^ 5);
            check.due("alter(" + p + ", 5) while off", x.alter(p, 5), true);
        }
        check.due("isOn()", x.isOn(), false);
        x.mount();
        for (int p : new int[] {0, 50, 51, 101}) {
            int word = x.peek(p);
            check.due("alter(" + p + ", 5) while on", x.alter(p, 5), true);
            check.due("peek(" + p + ")", x.peek(p), word ^ 5);
        }
        check.due("isOn()", x.isOn(), true);
    }

    private static void alterNeverTheSeal() {
        check.about("Somebody alters the disk (never the seal)");
        SealedSectors x = mounted();
        x.write(1, 1);
        x.checkpoint();
        x.write(2, 2);
        x.sync();
        Shot before = Shot.of(x);
        for (int p = -3; p < 110; p++) {
            x.alter(p, 0x01010101);
        }
        for (int k = 0; k < 4; k++) {
            check.due("seal(" + k + ")", x.seal(k), before.seal[k]);
        }
        for (int p = 0; p < Words.PLACES; p++) {
            check.due("peek(" + p + ")", x.peek(p), before.disk[p] ^ 0x01010101);
        }
    }

    private static void alterOutOfRange() {
        check.about("false when p is not 0 .. 101");
        SealedSectors x = mounted();
        Shot before = Shot.of(x);
        for (int p : new int[] {-1, 102, 103, 204, -102, Integer.MIN_VALUE, Integer.MAX_VALUE}) {
            check.due("alter(" + p + ", 1)", x.alter(p, 1), false);
            check.due("alter(" + p + ", 0)", x.alter(p, 0), false);
        }
        check.same("out of range", Shot.of(x), before);
        check.due("alter(0, 1)", x.alter(0, 1), true);
        check.due("alter(101, 1)", x.alter(101, 1), true);
    }

    private static void peekOutOfRange() {
        check.about("The word at place p; 0 when p is not 0 .. 101.");
        SealedSectors x = new SealedSectors();
        for (int p = 0; p < Words.PLACES; p++) {
            Words.put(x, p, p + 1);
        }
        for (int p = 0; p < Words.PLACES; p++) {
            check.due("peek(" + p + ")", x.peek(p), p + 1);
        }
        for (int p : new int[] {-1, 102, 103, Integer.MIN_VALUE, Integer.MAX_VALUE}) {
            check.due("peek(" + p + ")", x.peek(p), 0);
        }
    }

    private static void sealOutOfRange() {
        check.about("k = 0 HALF, 1 GENERATION, 2 ROOT, 3 COUNT; 0 for another k.");
        SealedSectors x = mounted();
        x.checkpoint();
        x.write(1, 1);
        x.write(1, 1);
        x.write(1, 1);
        x.sync();
        int[] seal = {1, 2, Words.treeWords(1, 2, new long[8])[16], 3};
        for (int k = 0; k < 4; k++) {
            check.due("seal(" + k + ")", x.seal(k), seal[k]);
        }
        for (int k : new int[] {-1, 4, 5, Integer.MIN_VALUE, Integer.MAX_VALUE}) {
            check.due("seal(" + k + ")", x.seal(k), 0);
        }
        x.arm(0);
        x.sync();
        for (int k = 0; k < 4; k++) {
            check.due("seal(" + k + ") while off", x.seal(k), seal[k]);
        }
    }

    private static void manyCheckpoints() {
        check.about("An object is used for at most 512 calls after it has been made");
        SealedSectors x = mounted();
        for (int g = 2; g <= 511; g++) {
            check.due("checkpoint()", x.checkpoint(), g);
        }
        check.due("the 512th call, steps()", x.steps(), 510 * 37);
    }

    private static void manyWrites() {
        check.about("An object is used for at most 512 calls after it has been made");
        SealedSectors x = mounted();
        for (int i = 0; i < 510; i++) {
            check.due("write " + i, x.write(i % 8, Long.MAX_VALUE - i), i % 5 + 1);
        }
        check.due("the 512th call, steps()", x.steps(), 510 * 4 + 101 * 37);
    }
}
