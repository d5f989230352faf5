/** The document's arithmetic on words, told anew for the tests, and its inverse for forgers. */
final class Words {
    static final int PLACES = 102;
    static final int MARK = 3;
    private static final int FACTOR = -1640531527;

    private Words() {
    }

    static int digest(int a, int b) {
        int x = ((a + 668265263) ^ Integer.rotateLeft(b, 9)) * FACTOR;
        return x ^ (x >>> 15);
    }

    /** The b with which digest(a, b) is the result. */
    static int undigest(int a, int result) {
        int x = result ^ (result >>> 15) ^ (result >>> 30);
        int inverse = 1;
        for (int bit = 0; bit < 5; bit++) {
            inverse *= 2 - FACTOR * inverse;
        }
        return Integer.rotateRight((x * inverse) ^ (a + 668265263), 9);
    }

    static int enciphered(int word, int place, int generation) {
        return word ^ digest(digest(19088743, generation), place);
    }

    static int upper(long value) {
        return (int) (value / 4294967296L);
    }

    static int lower(long value) {
        return (int) (value % 4294967296L);
    }

    static long joined(int upper, int lower) {
        return upper * 4294967296L + Integer.toUnsignedLong(lower);
    }

    static int sector(int half, int sector) {
        return 51 * half + 2 * sector;
    }

    static int node(int half, int node) {
        return 51 * half + 15 + node;
    }

    static int record(int half, int record) {
        return 51 * half + 31 + 4 * record;
    }

    static int leaf(int generation, int sector, int c, int d) {
        return digest(digest(8 * generation + sector, c), d);
    }

    static int firstChain(int root, int generation) {
        return digest(digest(19088743, root), generation);
    }

    static int nextChain(int chain, int c, int d, int e) {
        return digest(digest(digest(chain, c), d), e);
    }

    /** The four words of a record that goes on from a chain, and the chain behind it as a fifth. */
    static int[] recordWords(int place, int generation, int chain, int sector, int upper, int lower) {
        int c = enciphered(sector, place, generation);
        int d = enciphered(upper, place + 1, generation);
        int e = enciphered(lower, place + 2, generation);
        int next = nextChain(chain, c, d, e);
        return new int[] {c, d, e, next | 1, next};
    }

    /** The sixteen words of the sectors and the fifteen of the nodes, in the order of their places. */
    static int[] treeWords(int half, int generation, long[] values) {
        int[] words = new int[31];
        for (int s = 0; s < 8; s++) {
            int place = sector(half, s);
            words[2 * s] = enciphered(upper(values[s]), place, generation);
            words[2 * s + 1] = enciphered(lower(values[s]), place + 1, generation);
            words[23 + s] = leaf(generation, s, words[2 * s], words[2 * s + 1]);
        }
        for (int i = 7; i >= 1; i--) {
            words[15 + i] = digest(words[15 + 2 * i], words[16 + 2 * i]);
        }
        return words;
    }

    static void put(SealedSectors x, int place, int word) {
        x.alter(place, x.peek(place) ^ word);
    }
}
