/** Promise 2, and what makes a record good. */
public final class MountTest {
    private static final Check check = new Check();

    public static void main(String[] args) {
        listIsWhatTheGoodRecordsSay();
        noStepAndNothingDisarmed();
        refusedBelowCount();
        eachWordOfARecordMatters();
        forgedRecords();
        goodBehindBadIsNotGood();
        olderRecordsMayBecomeGoodAgain();
        otherHalfIsNotRead();
        check.end();
    }

    private static void listIsWhatTheGoodRecordsSay() {
        SealedSectors x = new SealedSectors();
        check.due("first mount()", x.mount(), 0);
        check.due("isOn()", x.isOn(), true);
        long[] values = {1, Long.MAX_VALUE, 0, 4294967296L, 2147483648L};
        int[] sectors = {7, 0, 7, 3, 0};
        for (int i = 0; i < 5; i++) {
            x.write(sectors[i], values[i]);
            check.due("mount() behind write " + i, x.mount(), i + 1);
            check.due("writes()", x.writes(), i + 1);
            check.due("read() behind write " + i, x.read(sectors[i]), values[i]);
        }
        check.due("read(7)", x.read(7), 0);
        check.due("read(3)", x.read(3), 4294967296L);
        check.due("read(0)", x.read(0), 2147483648L);
        check.due("seal(3)", x.seal(3), 0);
    }

    private static void noStepAndNothingDisarmed() {
        SealedSectors x = new SealedSectors();
        x.arm(1);
        check.due("armed mount()", x.mount(), 0);
        check.due("mount() again", x.mount(), 0);
        check.due("steps()", x.steps(), 0);
        check.due("sync()", x.sync(), 0);
        check.due("mount() with none left", x.mount(), 0);
        check.due("sync() with none left", x.sync(), -4);
        check.due("mount() behind the cut", x.mount(), 0);
        check.due("sync() behind the cut", x.sync(), 0);
        check.due("steps()", x.steps(), 2);
    }

    private static void refusedBelowCount() {
        SealedSectors x = new SealedSectors();
        x.mount();
        x.write(1, 11);
        x.write(2, 22);
        x.sync();
        x.write(3, 33);
        x.alter(Words.record(0, 2), 1);
        check.due("as many good as COUNT", x.mount(), 2);
        check.due("read(3)", x.read(3), 0);
        x.alter(Words.record(0, 1), 1);
        Shot before = Shot.of(x);
        x.arm(0);
        check.due("one good less than COUNT", x.mount(), -3);
        check.due("isOn()", x.isOn(), false);
        check.due("writes()", x.writes(), -1);
        check.due("read(1)", x.read(1), -1);
        check.due("mount() while off", x.mount(), -3);
        check.due("isOn()", x.isOn(), false);
        check.same("refused", Shot.of(x), before);
        x.alter(Words.record(0, 1), 1);
        check.due("mended", x.mount(), 2);
        check.due("what was armed stays when refused", x.sync(), -4);
        x.alter(Words.record(0, 2), 1);
        check.due("all three again", x.mount(), 3);
        check.due("read(3)", x.read(3), 33);
    }

    private static void eachWordOfARecordMatters() {
        SealedSectors x = new SealedSectors();
        x.mount();
        for (int k = 0; k < 5; k++) {
            x.write(k, 100 + k);
        }
        for (int w = 0; w < 20; w++) {
            int place = Words.record(0, 0) + w;
            x.alter(place, w % 2 == 0 ? 1 : Integer.MIN_VALUE);
            check.due("mount() with place " + place + " altered", x.mount(), w / 4);
            x.alter(place, w % 2 == 0 ? 1 : Integer.MIN_VALUE);
            check.due("mount() with it mended", x.mount(), 5);
        }
        x.alter(Words.record(0, 0) + Words.MARK, 1);
        check.due("the mark's lowest bit matters", x.mount(), 0);
    }

    private static SealedSectors withForged(int sector, int upper, int lower) {
        SealedSectors x = new SealedSectors();
        forge(x, 0, Words.firstChain(x.seal(2), 1), sector, upper, lower);
        return x;
    }

    private static int forge(SealedSectors x, int record, int chain, int sector, int upper, int lower) {
        int place = Words.record(x.seal(0), record);
        int[] words = Words.recordWords(place, x.seal(1), chain, sector, upper, lower);
        for (int i = 0; i < 4; i++) {
            Words.put(x, place + i, words[i]);
        }
        return words[4];
    }

    private static void forgedRecords() {
        check.due("sector 0, value 0", withForged(0, 0, 0).mount(), 1);
        check.due("sector 7, greatest value", withForged(7, Integer.MAX_VALUE, -1).mount(), 1);
        check.due("lower half negative", withForged(3, 0, Integer.MIN_VALUE).mount(), 1);
        check.due("sector 8", withForged(8, 0, 0).mount(), 0);
        check.due("sector -1", withForged(-1, 0, 0).mount(), 0);
        check.due("sector 256", withForged(256, 0, 0).mount(), 0);
        check.due("sector lowest", withForged(Integer.MIN_VALUE, 0, 0).mount(), 0);
        check.due("value negative", withForged(3, Integer.MIN_VALUE, 0).mount(), 0);
        check.due("value -1", withForged(3, -1, -1).mount(), 0);
        SealedSectors x = withForged(6, 1, -1);
        check.due("forged mount()", x.mount(), 1);
        check.due("forged read(6)", x.read(6), 8589934591L);
    }

    private static void goodBehindBadIsNotGood() {
        SealedSectors x = new SealedSectors();
        int chain = forge(x, 0, Words.firstChain(x.seal(2), 1), 2, 0, 5);
        chain = forge(x, 1, chain, 8, 0, 5);
        forge(x, 2, chain, 3, 0, 5);
        check.due("the second has no sector", x.mount(), 1);
        check.due("read(2)", x.read(2), 5);
        check.due("read(3)", x.read(3), 0);
    }

    private static void olderRecordsMayBecomeGoodAgain() {
        SealedSectors x = new SealedSectors();
        x.mount();
        x.write(0, 1);
        x.write(1, 2);
        x.write(2, 3);
        x.alter(Words.record(0, 1), 1);
        check.due("mount()", x.mount(), 1);
        check.due("the same write again", x.write(1, 2), 2);
        check.due("mount()", x.mount(), 3);
        x.alter(Words.record(0, 1), 1);
        x.mount();
        check.due("another write", x.write(1, 7), 2);
        check.due("mount()", x.mount(), 2);
        check.due("read(2)", x.read(2), 0);
    }

    private static void otherHalfIsNotRead() {
        SealedSectors x = new SealedSectors();
        x.mount();
        x.write(0, 1);
        x.sync();
        x.checkpoint();
        check.due("mount() in half 1", x.mount(), 0);
        x.write(5, 55);
        check.due("mount() in half 1", x.mount(), 1);
        x.alter(Words.record(0, 0), 1);
        check.due("half 0 altered", x.mount(), 1);
        x.alter(Words.record(1, 0), 1);
        check.due("half 1 altered", x.mount(), 0);
    }
}
