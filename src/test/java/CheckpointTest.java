/** Promise 8. */
public final class CheckpointTest {
    private static final Check check = new Check();
    private static final long[] VALUES = {1, 0, Long.MAX_VALUE, 0, 4294967295L, 0, 0, 4294967296L};

    public static void main(String[] args) {
        offAndRefused();
        everyCut(0);
        everyCut(1);
        manyCheckpoints();
        check.end();
    }

    private static void offAndRefused() {
        SealedSectors x = new SealedSectors();
        check.due("checkpoint() while off", x.checkpoint(), -1);
        x.mount();
        x.write(3, 3);
        x.arm(5);
        for (int s = 0; s < 8; s++) {
            x.alter(Words.sector(0, s) + 1, 4);
            check.due("checkpoint() with sector " + s + " altered", x.checkpoint(), s == 3 ? -4 : -3);
            check.due("isOn()", x.isOn(), s != 3);
            x.mount();
            check.due("writes()", x.writes(), 1);
            x.alter(Words.sector(0, s) + 1, 4);
        }
        check.due("steps()", x.steps(), 4 + 5);
        check.due("seal(1)", x.seal(1), 1);
    }

    /** An object in a half, with VALUES partly in the sectors and partly in the list, and some dirt. */
    private static SealedSectors filled(int half) {
        SealedSectors x = new SealedSectors();
        x.mount();
        x.write(0, 8);
        x.write(2, VALUES[2]);
        x.write(4, 6);
        x.checkpoint();
        if (half == 0) {
            x.checkpoint();
        }
        x.write(4, VALUES[4]);
        x.write(7, VALUES[7]);
        x.write(0, VALUES[0]);
        x.sync();
        for (int word = 0; word < 51; word++) {
            x.alter(51 * (1 - half) + word, 1234567 * (word + 1));
        }
        return x;
    }

    /** The disk and the seal behind the first n steps of a checkpoint. */
    private static Shot behind(Shot before, int n) {
        Shot want = before.copy();
        int o = 1 - before.seal[0];
        int g = before.seal[1] + 1;
        int[] tree = Words.treeWords(o, g, VALUES);
        for (int step = 0; step < n; step++) {
            if (step < 5) {
                want.disk[Words.record(o, step) + Words.MARK] = 0;
            } else if (step < 21) {
                want.disk[51 * o + step - 5] = tree[step - 5];
            } else if (step < 36) {
                int node = 36 - step;
                want.disk[Words.node(o, node)] = tree[15 + node];
            } else {
                want.seal[0] = o;
                want.seal[1] = g;
                want.seal[2] = tree[16];
                want.seal[3] = 0;
            }
        }
        return want;
    }

    private static void everyCut(int half) {
        for (int n = 0; n <= 37; n++) {
            SealedSectors x = filled(half);
            int stepsBefore = x.steps();
            Shot before = Shot.of(x);
            String armed = " in half " + half + " armed " + n;
            x.arm(n);
            check.due("checkpoint()" + armed, x.checkpoint(), n < 37 ? -4 : before.seal[1] + 1);
            check.due("isOn()" + armed, x.isOn(), n == 37);
            check.due("writes()" + armed, x.writes(), n < 37 ? -1 : 0);
            check.due("steps()" + armed, x.steps(), stepsBefore + n);
            check.same("checkpoint" + armed, Shot.of(x), behind(before, n));
            check.due("mount()" + armed, x.mount(), n < 37 ? 3 : 0);
            for (int s = 0; s < 8; s++) {
                check.due("read(" + s + ")" + armed, x.read(s), VALUES[s]);
            }
        }
    }

    private static void manyCheckpoints() {
        SealedSectors x = new SealedSectors();
        x.mount();
        for (int g = 2; g <= 120; g++) {
            x.write(g % 8, g);
            check.due("checkpoint()", x.checkpoint(), g);
            check.due("seal(0)", x.seal(0), 1 - g % 2);
            check.due("writes()", x.writes(), 0);
        }
        for (int s = 0; s < 8; s++) {
            check.due("read(" + s + ")", x.read(s), s == 0 ? 120 : 112 + s);
        }
        check.due("sound()", x.sound(), 255);
        check.due("steps()", x.steps(), 119 * 41);
    }
}
