import java.util.function.Consumer;

/** "Terms": what is tested first at a call, and what a refused call changes. */
public final class RefusalBoundaryTest {
    private static final Check check = new Check();

    public static void main(String[] args) {
        offIsTestedFirst();
        badIsTestedBeforeTheCheckpoint();
        refusedIsTestedBeforeAnyStep();
        callsThatAnswerOffChangeNothing();
        callsThatAnswerBadChangeNothing();
        callsThatAnswerRefusedChangeNothing();
        mountThatAnswersRefusedDoes();
        otherWrongNumbersChangeNothing();
        check.end();
    }

    private static SealedSectors made(Consumer<SealedSectors> past) {
        SealedSectors x = new SealedSectors();
        past.accept(x);
        return x;
    }

    /** Two writes, one of them synced, and a few steps armed. */
    private static void someWrites(SealedSectors x) {
        x.mount();
        x.write(1, 10);
        x.sync();
        x.write(2, 20);
        x.arm(7);
    }

    private static void fullList(SealedSectors x) {
        x.mount();
        for (int i = 0; i < 5; i++) {
            x.write(i, 100 + i);
        }
        x.arm(3);
    }

    private static void fullListAndNoValue(SealedSectors x) {
        fullList(x);
        x.alter(Words.sector(0, 6), 1);
    }

    private static void cutOff(SealedSectors x) {
        someWrites(x);
        x.arm(2);
        x.write(3, 30);
        x.arm(5);
    }

    private static void offIsTestedFirst() {
        check.about("What is named first at a call is tested first. (OFF before BAD, REFUSED and CUT)");
        SealedSectors x = new SealedSectors();
        x.alter(0, 1);
        x.arm(0);
        check.due("write(8, -1) while off", x.write(8, -1), -1);
        check.due("write(0, -1) while off", x.write(0, -1), -1);
        check.due("write(-1, 0) while off", x.write(-1, 0), -1);
        check.due("read(8) while off", x.read(8), -1);
        check.due("read(0) while off", x.read(0), -1);
        check.due("checkpoint() while off", x.checkpoint(), -1);
        check.due("sync() while off", x.sync(), -1);
        check.due("steps()", x.steps(), 0);
        x.mount();
        check.due("what is armed stays", x.sync(), -4);
    }

    private static void badIsTestedBeforeTheCheckpoint() {
        check.about("What is named first at a call is tested first. (BAD before REFUSED and CUT)");
        SealedSectors x = made(RefusalBoundaryTest::fullListAndNoValue);
        x.arm(0);
        check.due("write(8, 0) with a full list", x.write(8, 0), -2);
        check.due("write(0, -1) with a full list", x.write(0, -1), -2);
        check.due("write(-1, -1) with a full list", x.write(-1, -1), -2);
        check.due("read(8)", x.read(8), -2);
        check.due("write(0, 0) with a full list", x.write(0, 0), -3);
        SealedSectors y = made(RefusalBoundaryTest::fullList);
        y.arm(0);
        check.due("write(8, 0) with a full list", y.write(8, 0), -2);
        check.due("seal(1)", y.seal(1), 1);
        check.due("write(0, 0) with a full list", y.write(0, 0), -4);
    }

    private static void refusedIsTestedBeforeAnyStep() {
        check.about("What is named first at a call is tested first. (REFUSED before CUT)");
        SealedSectors x = made(RefusalBoundaryTest::fullListAndNoValue);
        x.arm(0);
        check.due("checkpoint()", x.checkpoint(), -3);
        check.due("write(6, 1)", x.write(6, 1), -3);
        check.due("isOn()", x.isOn(), true);
        check.due("sync() looks at no sector", x.sync(), -4);
    }

    private static void callsThatAnswerOffChangeNothing() {
        check.about("A call other than mount that answers OFF .. changes nothing.");
        Twins.stayAlike(check, "off", RefusalBoundaryTest::cutOff, x -> {
            check.due("write(1, 1)", x.write(1, 1), -1);
            check.due("write(9, -1)", x.write(9, -1), -1);
            check.due("read(1)", x.read(1), -1);
            check.due("sync()", x.sync(), -1);
            check.due("checkpoint()", x.checkpoint(), -1);
            check.due("writes()", x.writes(), -1);
            check.due("sound()", x.sound(), -1);
        });
    }

    private static void callsThatAnswerBadChangeNothing() {
        check.about("A call other than mount that answers .. BAD .. changes nothing.");
        Consumer<SealedSectors> calls = x -> {
            check.due("write(8, 1)", x.write(8, 1), -2);
            check.due("write(-1, 1)", x.write(-1, 1), -2);
            check.due("write(1, -1)", x.write(1, -1), -2);
            check.due("read(8)", x.read(8), -2);
            check.due("read(-1)", x.read(-1), -2);
        };
        Twins.stayAlike(check, "bad", RefusalBoundaryTest::someWrites, calls);
        Twins.stayAlike(check, "bad with a full list", RefusalBoundaryTest::fullList, calls);
    }

    private static void callsThatAnswerRefusedChangeNothing() {
        check.about("A call other than mount that answers .. REFUSED changes nothing.");
        Twins.stayAlike(check, "refused with a full list", RefusalBoundaryTest::fullListAndNoValue, x -> {
            check.due("write(6, 1)", x.write(6, 1), -3);
            check.due("write(0, 1)", x.write(0, 1), -3);
            check.due("checkpoint()", x.checkpoint(), -3);
            check.due("read(6)", x.read(6), -3);
        });
        Consumer<SealedSectors> noValue = x -> {
            someWrites(x);
            x.alter(Words.sector(0, 6), 1);
        };
        Twins.stayAlike(check, "refused", noValue, x -> {
            check.due("checkpoint()", x.checkpoint(), -3);
            check.due("read(6)", x.read(6), -3);
        });
        Twins.stayAlike(check, "refused, and mended", RefusalBoundaryTest::someWrites, x -> {
            x.alter(Words.sector(0, 6), 1);
            check.due("checkpoint()", x.checkpoint(), -3);
            x.alter(Words.sector(0, 6), 1);
        });
        Twins.stayAlike(check, "a full list refused, and mended", RefusalBoundaryTest::fullList, x -> {
            x.alter(Words.sector(0, 6), 1);
            check.due("write(0, 1)", x.write(0, 1), -3);
            x.alter(Words.sector(0, 6), 1);
        });
    }

    private static void mountThatAnswersRefusedDoes() {
        check.about("A call other than mount");
        SealedSectors x = made(RefusalBoundaryTest::someWrites);
        Shot before = Shot.of(x);
        x.alter(31, 1);
        check.due("mount()", x.mount(), -3);
        check.due("isOn()", x.isOn(), false);
        check.due("writes()", x.writes(), -1);
        check.due("steps()", x.steps(), 9);
        x.alter(31, 1);
        check.same("disk and seal stay", Shot.of(x), before);
        check.due("mount() when mended", x.mount(), 2);
        for (int i = 1; i <= 7; i++) {
            check.due("what is armed stays: sync() " + i, x.sync(), 2);
        }
        check.due("the sync() after those", x.sync(), -4);
    }

    private static void otherWrongNumbersChangeNothing() {
        check.about("false when n is negative; false when p is not 0 .. 101; 0 when ..; 0 for another k");
        Consumer<SealedSectors> calls = x -> {
            for (int n : new int[] {-1, Integer.MIN_VALUE}) {
                check.due("arm(" + n + ")", x.arm(n), false);
                check.due("alter(" + n + ", -1)", x.alter(n, -1), false);
                check.due("peek(" + n + ")", x.peek(n), 0);
                check.due("seal(" + n + ")", x.seal(n), 0);
            }
            for (int p : new int[] {102, Integer.MAX_VALUE}) {
                check.due("alter(" + p + ", -1)", x.alter(p, -1), false);
                check.due("peek(" + p + ")", x.peek(p), 0);
                check.due("seal(" + p + ")", x.seal(p), 0);
            }
            check.due("seal(4)", x.seal(4), 0);
        };
        Twins.stayAlike(check, "wrong numbers", RefusalBoundaryTest::someWrites, calls);
        Twins.stayAlike(check, "wrong numbers while off", RefusalBoundaryTest::cutOff, calls);
    }
}
