/** Promise 7. */
public final class SyncTest {
    private static final Check check = new Check();

    public static void main(String[] args) {
        countBecomesTheNumberOfWrites();
        onlyCountChanges();
        cutLeavesTheSeal();
        diskIsNotLookedAt();
        check.end();
    }

    private static void countBecomesTheNumberOfWrites() {
        SealedSectors x = new SealedSectors();
        check.due("sync() while off", x.sync(), -1);
        check.due("steps()", x.steps(), 0);
        x.mount();
        check.due("sync() with no write", x.sync(), 0);
        check.due("steps()", x.steps(), 1);
        for (int n = 1; n <= 5; n++) {
            x.write(n, n);
            check.due("seal(3) before", x.seal(3), n - 1);
            check.due("sync()", x.sync(), n);
            check.due("seal(3)", x.seal(3), n);
            check.due("steps()", x.steps(), 1 + 5 * n);
        }
        check.due("sync() when COUNT is that already", x.sync(), 5);
        check.due("steps()", x.steps(), 27);
        check.due("writes()", x.writes(), 5);
    }

    private static void onlyCountChanges() {
        SealedSectors x = new SealedSectors();
        x.mount();
        x.checkpoint();
        x.write(0, 1);
        x.write(6, 1);
        Shot want = Shot.of(x);
        want.seal[3] = 2;
        check.due("sync()", x.sync(), 2);
        check.same("sync", Shot.of(x), want);
    }

    private static void cutLeavesTheSeal() {
        SealedSectors x = new SealedSectors();
        x.mount();
        x.write(0, 1);
        Shot before = Shot.of(x);
        x.arm(0);
        check.due("sync()", x.sync(), -4);
        check.due("isOn()", x.isOn(), false);
        check.due("steps()", x.steps(), 4);
        check.same("cut", Shot.of(x), before);
        check.due("sync() while off", x.sync(), -1);
    }

    private static void diskIsNotLookedAt() {
        SealedSectors x = new SealedSectors();
        x.mount();
        x.write(0, 1);
        x.write(0, 2);
        x.alter(Words.record(0, 0), 1);
        x.alter(0, 1);
        check.due("sync()", x.sync(), 2);
        check.due("seal(3)", x.seal(3), 2);
        check.due("mount()", x.mount(), -3);
        x.alter(Words.record(0, 0), 1);
        check.due("mount()", x.mount(), 2);
    }
}
