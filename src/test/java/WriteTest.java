/** Promises 5 and 12. */
public final class WriteTest {
    private static final Check check = new Check();

    public static void main(String[] args) {
        wrongInputs();
        recordsAreChained();
        chainIsNotChangedByAltering();
        chainGoesOnBehindMount();
        sixthWriteMakesACheckpoint();
        sixthWriteRefused();
        everyCutOfASixthWrite();
        check.end();
    }

    private static void wrongInputs() {
        SealedSectors x = new SealedSectors();
        check.due("write(0, 1) while off", x.write(0, 1), -1);
        check.due("write(8, -1) while off", x.write(8, -1), -1);
        check.due("writes() while off", x.writes(), -1);
        x.mount();
        Shot before = Shot.of(x);
        check.due("write(8, 0)", x.write(8, 0), -2);
        check.due("write(-1, 0)", x.write(-1, 0), -2);
        check.due("write(lowest, 0)", x.write(Integer.MIN_VALUE, 0), -2);
        check.due("write(greatest, 0)", x.write(Integer.MAX_VALUE, 0), -2);
        check.due("write(0, -1)", x.write(0, -1), -2);
        check.due("write(7, lowest)", x.write(7, Long.MIN_VALUE), -2);
        check.due("writes()", x.writes(), 0);
        check.due("steps()", x.steps(), 0);
        check.same("wrong inputs", Shot.of(x), before);
        for (int i = 0; i < 5; i++) {
            x.write(i, i);
        }
        check.due("write(8, 0) with a full list", x.write(8, 0), -2);
        check.due("write(0, -1) with a full list", x.write(0, -1), -2);
        check.due("seal(1)", x.seal(1), 1);
        check.due("writes()", x.writes(), 5);
    }

    private static void recordsAreChained() {
        SealedSectors x = new SealedSectors();
        x.mount();
        Shot want = Shot.of(x);
        int[] sectors = {0, 7, 7, 3, 0};
        long[] values = {0, Long.MAX_VALUE, 4294967295L, 4294967296L, 1};
        int chain = Words.firstChain(x.seal(2), 1);
        for (int k = 0; k < 5; k++) {
            int place = Words.record(0, k);
            int[] words = Words.recordWords(place, 1, chain, sectors[k],
                    Words.upper(values[k]), Words.lower(values[k]));
            System.arraycopy(words, 0, want.disk, place, 4);
            chain = words[4];
            check.due("write " + k, x.write(sectors[k], values[k]), k + 1);
            check.due("writes()", x.writes(), k + 1);
            check.due("read back " + k, x.read(sectors[k]), values[k]);
        }
        check.same("five records", Shot.of(x), want);
        check.due("steps()", x.steps(), 20);
    }

    private static void chainIsNotChangedByAltering() {
        SealedSectors x = new SealedSectors();
        x.mount();
        x.write(1, 10);
        x.alter(Words.record(0, 0), 5);
        x.alter(Words.record(0, 0) + Words.MARK, -1);
        check.due("write on an altered record", x.write(2, 20), 2);
        x.alter(Words.record(0, 0), 5);
        x.alter(Words.record(0, 0) + Words.MARK, -1);
        check.due("mount()", x.mount(), 2);
        check.due("read(2)", x.read(2), 20);
        x.alter(Words.record(0, 1) + 2, 9);
        check.due("write on an altered record that mount read", x.write(3, 30), 3);
        x.alter(Words.record(0, 1) + 2, 9);
        check.due("mount()", x.mount(), 3);
        check.due("read(3)", x.read(3), 30);
    }

    private static void chainGoesOnBehindMount() {
        SealedSectors x = new SealedSectors();
        x.mount();
        x.write(1, 10);
        x.write(1, 11);
        x.write(1, 12);
        x.alter(Words.record(0, 1), 1);
        check.due("mount()", x.mount(), 1);
        check.due("write()", x.write(4, 40), 2);
        check.due("write()", x.write(4, 41), 3);
        check.due("mount()", x.mount(), 3);
        check.due("read(1)", x.read(1), 10);
        check.due("read(4)", x.read(4), 41);
    }

    private static SealedSectors full() {
        SealedSectors x = new SealedSectors();
        x.mount();
        x.write(0, 10);
        x.write(1, 11);
        x.write(0, 12);
        x.write(7, Long.MAX_VALUE);
        x.write(2, 4294967296L);
        return x;
    }

    private static final long[] FULL = {12, 11, 4294967296L, 0, 0, 0, 0, Long.MAX_VALUE};

    private static void sixthWriteMakesACheckpoint() {
        SealedSectors x = full();
        x.sync();
        Shot want = Shot.of(x);
        System.arraycopy(Words.treeWords(1, 2, FULL), 0, want.disk, 51, 31);
        want.seal[0] = 1;
        want.seal[1] = 2;
        want.seal[2] = want.disk[Words.node(1, 1)];
        want.seal[3] = 0;
        int place = Words.record(1, 0);
        int[] words = Words.recordWords(place, 2, Words.firstChain(want.seal[2], 2), 0, 0, 99);
        System.arraycopy(words, 0, want.disk, place, 4);
        check.due("sixth write()", x.write(0, 99), 1);
        check.due("writes()", x.writes(), 1);
        check.due("steps()", x.steps(), 21 + 37 + 4);
        check.same("sixth write", Shot.of(x), want);
        check.due("read(0)", x.read(0), 99);
        for (int s = 1; s < 8; s++) {
            check.due("read(" + s + ")", x.read(s), FULL[s]);
        }
    }

    private static void sixthWriteRefused() {
        SealedSectors x = full();
        x.alter(Words.sector(0, 5), 1);
        x.arm(0);
        Shot before = Shot.of(x);
        check.due("sixth write() refused", x.write(5, 99), -3);
        check.due("writes()", x.writes(), 5);
        check.due("steps()", x.steps(), 20);
        check.due("read(0)", x.read(0), 12);
        check.same("refused", Shot.of(x), before);
        x.alter(Words.sector(0, 5), 1);
        check.due("what is armed stays", x.write(5, 99), -4);
        x.mount();
        check.due("mended", x.write(5, 99), 1);
        check.due("read(5)", x.read(5), 99);
    }

    private static void everyCutOfASixthWrite() {
        for (int n = 0; n <= 41; n++) {
            SealedSectors x = full();
            x.sync();
            x.arm(n);
            String armed = " armed " + n;
            check.due("sixth write()" + armed, x.write(3, 99), n < 41 ? -4 : 1);
            check.due("isOn()" + armed, x.isOn(), n == 41);
            check.due("steps()" + armed, x.steps(), 21 + n);
            check.due("seal(0)" + armed, x.seal(0), n < 37 ? 0 : 1);
            check.due("seal(1)" + armed, x.seal(1), n < 37 ? 1 : 2);
            check.due("seal(3)" + armed, x.seal(3), n < 37 ? 5 : 0);
            check.due("mount()" + armed, x.mount(), n < 37 ? 5 : n < 41 ? 0 : 1);
            for (int s = 0; s < 8; s++) {
                check.due("read(" + s + ")" + armed, x.read(s), n == 41 && s == 3 ? 99 : FULL[s]);
            }
            check.due("sync()" + armed, x.sync(), n < 37 ? 5 : n < 41 ? 0 : -4);
        }
    }
}
