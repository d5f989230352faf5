/** Promises 6 and 13: what a sector has. */
public final class ReadTest {
    private static final Check check = new Check();

    public static void main(String[] args) {
        wrongInputs();
        everyWordOfTheTree(0);
        everyWordOfTheTree(1);
        listGoesBeforeTheDisk();
        forgedSectorWithNegativeValue();
        forgedSectorWithAValue();
        check.end();
    }

    private static void wrongInputs() {
        SealedSectors x = new SealedSectors();
        check.due("read(0) while off", x.read(0), -1);
        check.due("read(8) while off", x.read(8), -1);
        check.due("sound() while off", x.sound(), -1);
        x.mount();
        check.due("read(-1)", x.read(-1), -2);
        check.due("read(8)", x.read(8), -2);
        check.due("read(lowest)", x.read(Integer.MIN_VALUE), -2);
        check.due("read(greatest)", x.read(Integer.MAX_VALUE), -2);
        check.due("read(0)", x.read(0), 0);
        check.due("read(7)", x.read(7), 0);
        check.due("sound()", x.sound(), 255);
        check.due("steps()", x.steps(), 0);
    }

    /** Which sectors have a value when one word of a half's tree is altered. */
    private static int soundWith(int word) {
        if (word < 16) {
            return 255 - (1 << word / 2);
        }
        int node = word - 15;
        if (node == 1) {
            return 255;
        }
        int lost = 0;
        for (int s = 0; s < 8; s++) {
            for (int up = 8 + s; up > 1; up /= 2) {
                lost |= (up ^ 1) == node ? 1 << s : 0;
            }
        }
        return 255 - lost;
    }

    private static void everyWordOfTheTree(int half) {
        SealedSectors x = new SealedSectors();
        x.mount();
        if (half == 1) {
            x.checkpoint();
        }
        for (int word = 0; word < 31; word++) {
            for (int bits : new int[] {1, Integer.MIN_VALUE}) {
                x.alter(51 * half + word, bits);
                check.due("half " + half + ": sound() with word " + word, x.sound(), soundWith(word));
                x.alter(51 * half + word, bits);
            }
            x.alter(51 * (1 - half) + word, 1);
        }
        check.due("the other half does not matter", x.sound(), 255);
        x.alter(51 * half + 3, 1);
        check.due("read(0)", x.read(0), 0);
        check.due("read(1)", x.read(1), -3);
    }

    private static void listGoesBeforeTheDisk() {
        SealedSectors x = new SealedSectors();
        x.mount();
        x.write(4, 1);
        x.write(4, 2);
        x.write(5, 3);
        for (int word = 0; word < 51; word++) {
            x.alter(word, 1 << word % 32);
        }
        check.due("read(4)", x.read(4), 2);
        check.due("read(5)", x.read(5), 3);
        check.due("read(0)", x.read(0), -3);
        check.due("sound()", x.sound(), 48);
    }

    /** Sector 6 gets words with another value whose node is the old one. */
    private static void forgeSector(SealedSectors x, int upper) {
        int half = x.seal(0);
        int place = Words.sector(half, 6);
        int c = Words.enciphered(upper, place, x.seal(1));
        int leaf = x.peek(Words.node(half, 14));
        Words.put(x, place, c);
        Words.put(x, place + 1, Words.undigest(Words.digest(8 * x.seal(1) + 6, c), leaf));
    }

    private static void forgedSectorWithNegativeValue() {
        SealedSectors x = new SealedSectors();
        x.mount();
        forgeSector(x, Integer.MIN_VALUE);
        check.due("read(6)", x.read(6), -3);
        check.due("sound()", x.sound(), 255 - 64);
        check.due("checkpoint()", x.checkpoint(), -3);
        forgeSector(x, -1);
        check.due("read(6)", x.read(6), -3);
        x.write(6, 5);
        check.due("read(6) by the list", x.read(6), 5);
        check.due("sound() by the list", x.sound(), 255);
        check.due("checkpoint() by the list", x.checkpoint(), 2);
        check.due("read(6)", x.read(6), 5);
    }

    private static void forgedSectorWithAValue() {
        SealedSectors x = new SealedSectors();
        x.mount();
        x.checkpoint();
        forgeSector(x, 77);
        int place = Words.sector(1, 6) + 1;
        long value = Words.joined(77, Words.enciphered(x.peek(place), place, 2));
        check.due("read(6)", x.read(6), value);
        check.due("sound()", x.sound(), 255);
        check.due("checkpoint()", x.checkpoint(), 3);
        check.due("read(6)", x.read(6), value);
    }
}
