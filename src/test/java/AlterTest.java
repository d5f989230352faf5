/** Promises 9, 10 and 11. */
public final class AlterTest {
    private static final Check check = new Check();

    public static void main(String[] args) {
        alteredWords();
        wrongInputs();
        sealIsNeverAltered();
        check.end();
    }

    private static void alteredWords() {
        SealedSectors x = new SealedSectors();
        for (int p = 0; p < Words.PLACES; p++) {
            int before = x.peek(p);
            int bits = p % 3 == 0 ? -1 : 1 << p % 32;
            if (p == 50) {
                x.mount();
            }
            check.due("alter(" + p + ")", x.alter(p, bits), true);
            check.due("peek(" + p + ")", x.peek(p), before ^ bits);
        }
        check.due("steps()", x.steps(), 0);
        int word = x.peek(20);
        check.due("alter(20, 0)", x.alter(20, 0), true);
        check.due("peek(20)", x.peek(20), word);
        x.alter(20, 3);
        x.alter(20, 5);
        check.due("peek(20)", x.peek(20), word ^ 6);
    }

    private static void wrongInputs() {
        SealedSectors x = new SealedSectors();
        Shot before = Shot.of(x);
        for (int p : new int[] {-1, 102, 103, Integer.MIN_VALUE, Integer.MAX_VALUE}) {
            check.due("alter(" + p + ", -1)", x.alter(p, -1), false);
            check.due("alter(" + p + ", 0)", x.alter(p, 0), false);
            check.due("peek(" + p + ")", x.peek(p), 0);
        }
        for (int k : new int[] {-1, 4, 5, Integer.MIN_VALUE, Integer.MAX_VALUE}) {
            check.due("seal(" + k + ")", x.seal(k), 0);
        }
        check.same("wrong inputs", Shot.of(x), before);
    }

    private static void sealIsNeverAltered() {
        SealedSectors x = new SealedSectors();
        x.mount();
        x.write(1, 1);
        x.checkpoint();
        x.write(2, 2);
        x.write(2, 3);
        x.sync();
        int root = Words.treeWords(1, 2, new long[] {0, 1, 0, 0, 0, 0, 0, 0})[16];
        for (int p = 0; p < Words.PLACES; p++) {
            x.alter(p, -1);
        }
        x.mount();
        check.due("isOn()", x.isOn(), false);
        check.due("seal(0)", x.seal(0), 1);
        check.due("seal(1)", x.seal(1), 2);
        check.due("seal(2)", x.seal(2), root);
        check.due("seal(3)", x.seal(3), 2);
        check.due("seal(4)", x.seal(4), 0);
    }
}
