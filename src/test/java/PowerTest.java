/** Promises 3, 4 and 14. */
public final class PowerTest {
    private static final Check check = new Check();

    public static void main(String[] args) {
        wrongNumbers();
        armedWhileOff();
        armedInPlaceOfWhatWasArmed();
        everyCutOfAWrite();
        noStepNoCut();
        greatestNumber();
        check.end();
    }

    private static void wrongNumbers() {
        SealedSectors x = new SealedSectors();
        check.due("arm(-1)", x.arm(-1), false);
        check.due("arm(lowest)", x.arm(Integer.MIN_VALUE), false);
        x.mount();
        check.due("sync()", x.sync(), 0);
        check.due("arm(1)", x.arm(1), true);
        check.due("arm(-5)", x.arm(-5), false);
        check.due("sync()", x.sync(), 0);
        check.due("a wrong arm leaves what was armed", x.sync(), -4);
    }

    private static void armedWhileOff() {
        SealedSectors x = new SealedSectors();
        check.due("arm(0) while off", x.arm(0), true);
        check.due("isOn()", x.isOn(), false);
        x.mount();
        check.due("isOn()", x.isOn(), true);
        check.due("write()", x.write(0, 1), -4);
        check.due("isOn()", x.isOn(), false);
        check.due("steps()", x.steps(), 0);
        x.mount();
        check.due("nothing is armed behind the cut", x.write(0, 1), 1);
        check.due("steps()", x.steps(), 4);
    }

    private static void armedInPlaceOfWhatWasArmed() {
        SealedSectors x = new SealedSectors();
        x.mount();
        x.arm(0);
        check.due("arm(4)", x.arm(4), true);
        check.due("write()", x.write(0, 1), 1);
        check.due("isOn() with none left", x.isOn(), true);
        check.due("arm(3)", x.arm(3), true);
        check.due("arm(1)", x.arm(1), true);
        check.due("sync()", x.sync(), 1);
        check.due("sync()", x.sync(), -4);
        check.due("steps()", x.steps(), 5);
    }

    private static void everyCutOfAWrite() {
        for (int n = 0; n <= 4; n++) {
            SealedSectors x = new SealedSectors();
            x.mount();
            x.write(5, 6);
            Shot want = Shot.of(x);
            int place = Words.record(0, 1);
            int chain = Words.firstChain(x.seal(2), 1);
            chain = Words.nextChain(chain, want.disk[31], want.disk[32], want.disk[33]);
            int[] words = Words.recordWords(place, 1, chain, 4, 2, 3);
            System.arraycopy(words, 0, want.disk, place, n);
            x.arm(n);
            check.due("write() armed " + n, x.write(4, 8589934595L), n < 4 ? -4 : 2);
            check.due("isOn() armed " + n, x.isOn(), n == 4);
            check.due("writes() armed " + n, x.writes(), n == 4 ? 2 : -1);
            check.due("steps() armed " + n, x.steps(), 4 + n);
            check.same("armed " + n, Shot.of(x), want);
            check.due("mount() armed " + n, x.mount(), n < 4 ? 1 : 2);
            check.due("read(5)", x.read(5), 6);
            check.due("read(4)", x.read(4), n < 4 ? 0 : 8589934595L);
        }
    }

    private static void noStepNoCut() {
        SealedSectors x = new SealedSectors();
        x.mount();
        x.arm(0);
        x.alter(90, 3);
        x.peek(3);
        x.seal(2);
        x.sound();
        x.read(2);
        x.writes();
        check.due("write(8, 0)", x.write(8, 0), -2);
        x.alter(0, 1);
        check.due("checkpoint() refused", x.checkpoint(), -3);
        check.due("isOn()", x.isOn(), true);
        check.due("steps()", x.steps(), 0);
        x.alter(0, 1);
        check.due("checkpoint()", x.checkpoint(), -4);
        check.due("steps()", x.steps(), 0);
        check.due("write() while off", x.write(0, 0), -1);
        check.due("sync() while off", x.sync(), -1);
        check.due("checkpoint() while off", x.checkpoint(), -1);
        check.due("steps()", x.steps(), 0);
    }

    private static void greatestNumber() {
        SealedSectors x = new SealedSectors();
        check.due("arm(greatest)", x.arm(Integer.MAX_VALUE), true);
        x.mount();
        for (int i = 0; i < 100; i++) {
            check.due("sync()", x.sync(), 0);
        }
        check.due("steps()", x.steps(), 100);
    }
}
