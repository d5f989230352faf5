/** "Terms": the chain, the mark and when a record is good; and the edges of promise 2. */
public final class JournalBoundaryTest {
    private static final Check check = new Check();

    public static void main(String[] args) {
        markOfAnEvenChain();
        chainBeforeTheFirstRecord();
        chainBehindAWriteStays();
        chainBehindAMountStays();
        chainIsReadAnewByMount();
        edgesOfASectorsNumber();
        edgesOfARecordsValue();
        noneBehindTheFirstThatIsNotGood();
        recordGoodInAnotherGenerationOnly();
        everyCountAndEveryNumberOfGoodRecords();
        refusedMountTurnsThePowerOff();
        mountWhileOnReadsTheJournalAnew();
        mountMakesNoStepAndWhatIsArmedStays();
        check.end();
    }

    private static SealedSectors mounted() {
        SealedSectors x = new SealedSectors();
        x.mount();
        return x;
    }

    private static int firstChain(SealedSectors x) {
        return Words.firstChain(x.seal(2), x.seal(1));
    }

    /** Forges record k behind a chain and answers the chain behind it. */
    private static int forge(SealedSectors x, int k, int chain, int sector, int upper, int lower) {
        int place = Words.record(x.seal(0), k);
        int[] words = Words.recordWords(place, x.seal(1), chain, sector, upper, lower);
        for (int i = 0; i < 4; i++) {
            Words.put(x, place + i, words[i]);
        }
        return words[4];
    }

    private static void dueRecord(String when, SealedSectors x, int k, int[] words) {
        int place = Words.record(x.seal(0), k);
        for (int i = 0; i < 4; i++) {
            check.due(when + ": word " + i + " of record " + k, x.peek(place + i), words[i]);
        }
    }

    private static void markOfAnEvenChain() {
        check.about("the mark is that | 1");
        int even = 0;
        for (int value = 0; value < 20; value++) {
            SealedSectors x = mounted();
            x.write(2, value);
            int[] first = Words.recordWords(31, 1, firstChain(x), 2, 0, value);
            even += first[4] % 2 == 0 ? 1 : 0;
            dueRecord("value " + value, x, 0, first);
            x.write(5, 6);
            dueRecord("the chain goes on from what is no mark yet", x, 1,
                    Words.recordWords(35, 1, first[4], 5, 0, 6));
            check.due("mount()", x.mount(), 2);
            x.alter(34, 1);
            check.due("mount() with the mark's last bit turned", x.mount(), 0);
        }
        check.due("some of the chains are even", even > 0 && even < 20, true);
    }

    private static void chainBeforeTheFirstRecord() {
        check.about("The CHAIN is DIGEST(DIGEST(19088743, ROOT), GENERATION) before the first record");
        SealedSectors x = mounted();
        for (int g = 1; g <= 4; g++) {
            // ROOT is the seal's, whatever stands at node 1.
            x.alter(Words.node(x.seal(0), 1), -1);
            check.due("write()", x.write(g, 5 * g), 1);
            dueRecord("generation " + g, x, 0,
                    Words.recordWords(Words.record(x.seal(0), 0), g, firstChain(x), g, 0, 5 * g));
            check.due("mount()", x.mount(), 1);
            check.due("checkpoint()", x.checkpoint(), g + 1);
        }
    }

    private static void chainBehindAWriteStays() {
        check.about("write goes on from the chain as it was behind the latest write of the list, .. "
                + "altering the disk does not change it");
        for (int word = 0; word < 4; word++) {
            SealedSectors x = mounted();
            x.write(1, 10);
            int[] first = Words.recordWords(31, 1, firstChain(x), 1, 0, 10);
            x.alter(31 + word, 0x40000001);
            check.due("write()", x.write(2, 20), 2);
            int[] second = Words.recordWords(35, 1, first[4], 2, 0, 20);
            dueRecord("word " + word + " altered", x, 1, second);
            x.sync();
            x.sound();
            x.write(9, 1);
            check.due("write()", x.write(3, 30), 3);
            dueRecord("word " + word + " altered", x, 2, Words.recordWords(39, 1, second[4], 3, 0, 30));
        }
    }

    private static void chainBehindAMountStays() {
        check.about("the chain as it was .. when mount read that");
        for (int word = 0; word < 4; word++) {
            SealedSectors x = mounted();
            x.write(1, 10);
            int[] first = Words.recordWords(31, 1, firstChain(x), 1, 0, 10);
            x.mount();
            x.alter(31 + word, 0x40000001);
            x.write(2, 20);
            dueRecord("word " + word + " altered", x, 1, Words.recordWords(35, 1, first[4], 2, 0, 20));
        }
        SealedSectors x = mounted();
        x.alter(31, 1);
        x.alter(34, 1);
        x.write(2, 20);
        dueRecord("an empty list", x, 0, Words.recordWords(31, 1, firstChain(x), 2, 0, 20));
    }

    private static void chainIsReadAnewByMount() {
        check.about("when mount read that or write wrote it");
        SealedSectors x = mounted();
        x.write(1, 10);
        x.write(1, 11);
        int chain = forge(x, 0, firstChain(x), 6, 0, 66);
        check.due("mount()", x.mount(), 1);
        check.due("read(6)", x.read(6), 66);
        check.due("read(1)", x.read(1), 0);
        x.write(2, 20);
        dueRecord("behind a forged record", x, 1, Words.recordWords(35, 1, chain, 2, 0, 20));
    }

    private static void edgesOfASectorsNumber() {
        check.about("its first word deciphered is 0 .. 7");
        int[] numbers = {0, 7, 8, -1, 15, 256, 65536, Integer.MIN_VALUE, Integer.MIN_VALUE + 7, Integer.MAX_VALUE};
        for (int number : numbers) {
            SealedSectors x = new SealedSectors();
            forge(x, 0, firstChain(x), number, 0, 5);
            check.due("mount() with sector " + number, x.mount(), number == 0 || number == 7 ? 1 : 0);
            check.due("sound()", x.sound(), 255);
        }
    }

    private static void edgesOfARecordsValue() {
        check.about("and its value deciphered is not negative");
        long[] values = {0, 1, 2147483648L, 4294967295L, Long.MAX_VALUE, -1, -2, -4294967296L, Long.MIN_VALUE};
        for (long value : values) {
            SealedSectors x = new SealedSectors();
            forge(x, 0, firstChain(x), 4, (int) (value >> 32), (int) value);
            check.due("mount() with value " + value, x.mount(), value >= 0 ? 1 : 0);
            check.due("read(4) with value " + value, x.read(4), Math.max(value, 0));
        }
    }

    /** All five records on one chain; record bad is wrong in one way, or none when it is 5. */
    private static SealedSectors withOneBad(int bad, int way) {
        SealedSectors x = new SealedSectors();
        int chain = firstChain(x);
        for (int k = 0; k < 5; k++) {
            boolean wrong = k == bad;
            chain = forge(x, k, chain, wrong && way == 0 ? 8 : k, wrong && way == 1 ? -1 : 0, 100 + k);
        }
        if (bad < 5 && way == 2) {
            x.alter(Words.record(0, bad) + Words.MARK, 2);
        }
        return x;
    }

    private static void noneBehindTheFirstThatIsNotGood() {
        check.about("A record is GOOD when those before it are (so none behind the first that is not)");
        for (int way = 0; way < 3; way++) {
            for (int bad = 0; bad <= 5; bad++) {
                SealedSectors x = withOneBad(bad, way);
                String when = "record " + bad + " wrong in way " + way;
                check.due("mount() with " + when, x.mount(), bad);
                check.due("writes() with " + when, x.writes(), bad);
                for (int k = 0; k < 5; k++) {
                    check.due("read(" + k + ") with " + when, x.read(k), k < bad ? 100 + k : 0);
                }
            }
        }
    }

    private static void recordGoodInAnotherGenerationOnly() {
        check.about("each enciphered in GENERATION for its place");
        SealedSectors x = mounted();
        x.write(3, 33);
        int[] old = {x.peek(31), x.peek(32), x.peek(33), x.peek(34)};
        x.checkpoint();
        for (int i = 0; i < 4; i++) {
            Words.put(x, 82 + i, old[i]);
        }
        check.due("mount() with a record of the other half", x.mount(), 0);
        x.checkpoint();
        for (int i = 0; i < 4; i++) {
            Words.put(x, 31 + i, old[i]);
        }
        check.due("mount() with a record of generation 1", x.mount(), 0);
        check.due("read(3)", x.read(3), 33);
        check.due("seal(1)", x.seal(1), 3);
    }

    private static void everyCountAndEveryNumberOfGoodRecords() {
        check.about("when fewer than COUNT of its records are good, it answers REFUSED .. (COUNT of them or more)");
        for (int count = 0; count <= 5; count++) {
            for (int good = 0; good <= 5; good++) {
                for (int before = 0; before < 2; before++) {
                    SealedSectors x = withCount(count, good);
                    if (before == 0) {
                        x.arm(0);
                        x.sync();
                    }
                    String when = "COUNT " + count + ", " + good + " good, on before: " + before;
                    boolean enough = good >= count;
                    check.due("isOn() before, " + when, x.isOn(), before == 1);
                    check.due("mount() with " + when, x.mount(), enough ? good : -3);
                    check.due("isOn() with " + when, x.isOn(), enough);
                    check.due("writes() with " + when, x.writes(), enough ? good : -1);
                    check.due("seal(3) with " + when, x.seal(3), count);
                }
            }
        }
    }

    /** Five writes, of which the seal knows count and as many are good as told. */
    private static SealedSectors withCount(int count, int good) {
        SealedSectors x = mounted();
        for (int k = 0; k < 5; k++) {
            if (k == count) {
                x.sync();
            }
            x.write(k, 10 + k);
        }
        if (count == 5) {
            x.sync();
        }
        if (good < 5) {
            x.alter(Words.record(0, good) + 1, 1);
        }
        return x;
    }

    private static void refusedMountTurnsThePowerOff() {
        check.about("it answers REFUSED, and the power is off (also when it was on)");
        SealedSectors x = withCount(3, 2);
        Shot before = Shot.of(x);
        check.due("mount()", x.mount(), -3);
        check.due("isOn()", x.isOn(), false);
        check.due("read(0)", x.read(0), -1);
        check.due("write(0, 1)", x.write(0, 1), -1);
        check.due("sync()", x.sync(), -1);
        check.due("checkpoint()", x.checkpoint(), -1);
        check.due("writes()", x.writes(), -1);
        check.due("sound()", x.sound(), -1);
        check.due("mount() while off", x.mount(), -3);
        check.same("refused", Shot.of(x), before);
        x.alter(Words.record(0, 2) + 1, 1);
        check.due("mount() when mended", x.mount(), 5);
        check.due("isOn()", x.isOn(), true);
        check.due("read(4)", x.read(4), 14);
    }

    private static void mountWhileOnReadsTheJournalAnew() {
        check.about("otherwise the power is on (also if it was), the list of writes is what the good records say");
        SealedSectors x = mounted();
        x.write(1, 10);
        x.write(1, 11);
        x.write(0, 5);
        x.alter(Words.record(0, 1), 1);
        check.due("read(1) by the list", x.read(1), 11);
        check.due("mount()", x.mount(), 1);
        check.due("isOn()", x.isOn(), true);
        check.due("read(1)", x.read(1), 10);
        check.due("read(0)", x.read(0), 0);
        x.alter(Words.record(0, 0), 1);
        check.due("mount() with no good record", x.mount(), 0);
        check.due("read(1)", x.read(1), 0);
        x.alter(Words.record(0, 0), 1);
        x.alter(Words.record(0, 1), 1);
        check.due("mount() when mended", x.mount(), 3);
        check.due("the later one is behind", x.read(1), 11);
        check.due("read(0)", x.read(0), 5);
    }

    private static void mountMakesNoStepAndWhatIsArmedStays() {
        check.about("No step; what is armed stays.");
        SealedSectors x = new SealedSectors();
        x.arm(0);
        check.due("mount() armed 0", x.mount(), 0);
        check.due("isOn()", x.isOn(), true);
        check.due("steps()", x.steps(), 0);
        check.due("sync()", x.sync(), -4);
        x.mount();
        x.write(1, 1);
        x.sync();
        x.alter(31, 1);
        x.arm(1);
        check.due("mount() refused", x.mount(), -3);
        check.due("mount() refused", x.mount(), -3);
        x.alter(31, 1);
        check.due("mount()", x.mount(), 1);
        check.due("steps()", x.steps(), 5);
        check.due("sync()", x.sync(), 1);
        check.due("sync() behind the armed step", x.sync(), -4);
    }
}
