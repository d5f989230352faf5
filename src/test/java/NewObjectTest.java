/** Promise 1. */
public final class NewObjectTest {
    public static void main(String[] args) {
        Check check = new Check();
        SealedSectors x = new SealedSectors();
        int[] tree = Words.treeWords(0, 1, new long[8]);
        for (int p = 0; p < Words.PLACES; p++) {
            check.due("peek(" + p + ")", x.peek(p), p < tree.length ? tree[p] : 0);
        }
        check.due("seal(0)", x.seal(0), 0);
        check.due("seal(1)", x.seal(1), 1);
        check.due("seal(2)", x.seal(2), tree[16]);
        check.due("seal(3)", x.seal(3), 0);
        check.due("isOn()", x.isOn(), false);
        check.due("steps()", x.steps(), 0);
        nothingIsArmed(check);
        objectsAreApart(check);
        check.end();
    }

    private static void nothingIsArmed(Check check) {
        SealedSectors x = new SealedSectors();
        check.due("mount()", x.mount(), 0);
        for (int i = 1; i <= 200; i++) {
            check.due("sync() " + i, x.sync(), 0);
        }
        check.due("steps()", x.steps(), 200);
    }

    private static void objectsAreApart(Check check) {
        SealedSectors x = new SealedSectors();
        SealedSectors y = new SealedSectors();
        Shot before = Shot.of(y);
        x.mount();
        x.write(3, 9);
        x.checkpoint();
        x.arm(0);
        check.same("another object", Shot.of(y), before);
        check.due("another's isOn()", y.isOn(), false);
        check.due("another's mount()", y.mount(), 0);
        check.due("another's sync()", y.sync(), 0);
        check.due("another's steps()", y.steps(), 1);
    }
}
