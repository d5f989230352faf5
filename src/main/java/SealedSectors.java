/**
 * Eight sectors kept enciphered on a disk of words that anybody may alter, with a tree of digests
 * over them, a journal of later writes, and a seal of four numbers that nobody can alter; the power
 * may fail before any single word is written.
 */
public final class SealedSectors {
    public static final int OFF = -1;
    public static final int BAD = -2;
    public static final int REFUSED = -3;
    public static final int CUT = -4;

    private static final int KEY = 19088743;
    private static final int SECTORS = 8;
    private static final int ALL_SECTORS = (1 << SECTORS) - 1;
    private static final int FIRST_LEAF = 8;
    private static final int LAST_NODE = 15;
    private static final int RECORDS = 5;
    private static final int RECORD_WORDS = 4;
    private static final int MARK_WORD = 3;
    private static final int HALF_WORDS = 51;
    private static final int NODES_BEGIN = 16;
    private static final int RECORDS_BEGIN = 31;
    private static final int PLACES = 2 * HALF_WORDS;
    private static final int NOT_ARMED = -1;

    private final int[] disk;

    // The seal.
    private int half;
    private int generation;
    private int root;
    private int count;

    private int stepsLeft;
    private int stepsMade;

    // What is forgotten when the power is off.
    private boolean on;
    private int listSize;
    private final int[] listSectors;
    private final long[] listValues;
    // Kept here and not read again from the disk, so that altering a record does not change it.
    private int chain;

    public SealedSectors() {
        disk = new int[PLACES];
        listSectors = new int[RECORDS];
        listValues = new long[RECORDS];
        stepsLeft = NOT_ARMED;
        generation = 1;
        for (int p = 0; p < 2 * SECTORS; p++) {
            disk[p] = encipher(0, p, generation);
        }
        for (int node = LAST_NODE; node >= 1; node--) {
            disk[nodePlace(0, node)] = dueNode(0, node, generation);
        }
        root = disk[nodePlace(0, 1)];
    }

    public int mount() {
        takeJournal();
        if (listSize < count) {
            forget();
            return REFUSED;
        }
        on = true;
        return listSize;
    }

    public boolean arm(int n) {
        if (n < 0) {
            return false;
        }
        stepsLeft = n;
        return true;
    }

    public boolean isOn() {
        return on;
    }

    public int write(int sector, long value) {
        if (!on) {
            return OFF;
        }
        if (!isSector(sector) || value < 0) {
            return BAD;
        }
        if (listSize >= RECORDS) {
            int moved = moveToOtherHalf();
            if (moved < 0) {
                return moved;
            }
        }
        if (!storeRecord(sector, value)) {
            return CUT;
        }
        addToList(sector, value);
        return listSize;
    }

    public long read(int sector) {
        if (!on) {
            return OFF;
        }
        if (!isSector(sector)) {
            return BAD;
        }
        return valueOf(sector);
    }

    public int sync() {
        if (!on) {
            return OFF;
        }
        if (!changeSeal(half, generation, root, listSize)) {
            return CUT;
        }
        return listSize;
    }

    public int checkpoint() {
        if (!on) {
            return OFF;
        }
        return moveToOtherHalf();
    }

    public boolean alter(int p, int bits) {
        if (!isPlace(p)) {
            return false;
        }
        disk[p] ^= bits;
        return true;
    }

    public int peek(int p) {
        return isPlace(p) ? disk[p] : 0;
    }

    public int seal(int k) {
        switch (k) {
            case 0:
                return half;
            case 1:
                return generation;
            case 2:
                return root;
            case 3:
                return count;
            default:
                return 0;
        }
    }

    public int writes() {
        return on ? listSize : OFF;
    }

    public int sound() {
        return on ? soundSectors() : OFF;
    }

    public int steps() {
        return stepsMade;
    }

    private static int digest(int a, int b) {
        int x = ((a + 668265263) ^ (b << 9 | b >>> 23)) * -1640531527;
        return x ^ (x >>> 15);
    }

    /** Deciphers too: the same bits are flipped again. */
    private static int encipher(int word, int place, int g) {
        return word ^ digest(digest(KEY, g), place);
    }

    private static int upper(long value) {
        return (int) (value >>> 32);
    }

    private static int lower(long value) {
        return (int) value;
    }

    private static boolean isSector(int sector) {
        return sector >= 0 && sector < SECTORS;
    }

    private static boolean isPlace(int p) {
        return p >= 0 && p < PLACES;
    }

    private static int sectorPlace(int h, int sector) {
        return HALF_WORDS * h + 2 * sector;
    }

    private static int nodePlace(int h, int node) {
        return HALF_WORDS * h + NODES_BEGIN + node - 1;
    }

    private static int recordPlace(int h, int record) {
        return HALF_WORDS * h + RECORDS_BEGIN + RECORD_WORDS * record;
    }

    /** What a node of half h is due to be by the words below it as they stand there. */
    private int dueNode(int h, int node, int g) {
        if (node >= FIRST_LEAF) {
            int sector = node - FIRST_LEAF;
            int place = sectorPlace(h, sector);
            return digest(digest(8 * g + sector, disk[place]), disk[place + 1]);
        }
        return digest(disk[nodePlace(h, 2 * node)], disk[nodePlace(h, 2 * node + 1)]);
    }

    /** The value whose two enciphered words begin at a place. */
    private long valueAt(int place) {
        long high = encipher(disk[place], place, generation);
        long low = encipher(disk[place + 1], place + 1, generation);
        return high << 32 | (low & 0xFFFFFFFFL);
    }

    /** Node 1 worked out from a sector's own words; the stored nodes on its way up do not matter. */
    private int rootAbove(int sector) {
        int due = dueNode(half, FIRST_LEAF + sector, generation);
        for (int node = FIRST_LEAF + sector; node > 1; node = node / 2) {
            int beside = disk[nodePlace(half, node ^ 1)];
            due = node % 2 == 0 ? digest(due, beside) : digest(beside, due);
        }
        return due;
    }

    /** What a sector has; REFUSED, which is no value since it is negative, when it has none. */
    private long valueOf(int sector) {
        for (int i = listSize - 1; i >= 0; i--) {
            if (listSectors[i] == sector) {
                return listValues[i];
            }
        }
        if (rootAbove(sector) != root) {
            return REFUSED;
        }
        long value = valueAt(sectorPlace(half, sector));
        return value < 0 ? REFUSED : value;
    }

    private int soundSectors() {
        int sum = 0;
        for (int s = 0; s < SECTORS; s++) {
            if (valueOf(s) >= 0) {
                sum += 1 << s;
            }
        }
        return sum;
    }

    private void forget() {
        on = false;
        listSize = 0;
        chain = 0;
    }

    private void addToList(int sector, long value) {
        listSectors[listSize] = sector;
        listValues[listSize] = value;
        listSize++;
    }

    private void beginList() {
        listSize = 0;
        chain = digest(digest(KEY, root), generation);
    }

    private int chainBehind(int place) {
        return digest(digest(digest(chain, disk[place]), disk[place + 1]), disk[place + 2]);
    }

    private static int markOf(int link) {
        return link | 1;
    }

    /** The list becomes what the good records say. */
    private void takeJournal() {
        beginList();
        for (int k = 0; k < RECORDS; k++) {
            int place = recordPlace(half, k);
            int link = chainBehind(place);
            int sector = encipher(disk[place], place, generation);
            long value = valueAt(place + 1);
            if (disk[place + MARK_WORD] != markOf(link) || !isSector(sector) || value < 0) {
                return;
            }
            chain = link;
            addToList(sector, value);
        }
    }

    /** Whether the next step happens; when it does not, the power is off from here on. */
    private boolean stepHappens() {
        if (stepsLeft == 0) {
            stepsLeft = NOT_ARMED;
            forget();
            return false;
        }
        if (stepsLeft > 0) {
            stepsLeft--;
        }
        stepsMade++;
        return true;
    }

    private boolean storeWord(int place, int word) {
        if (!stepHappens()) {
            return false;
        }
        disk[place] = word;
        return true;
    }

    private boolean storeValue(int place, long value, int g) {
        return storeWord(place, encipher(upper(value), place, g))
                && storeWord(place + 1, encipher(lower(value), place + 1, g));
    }

    private boolean changeSeal(int newHalf, int newGeneration, int newRoot, int newCount) {
        if (!stepHappens()) {
            return false;
        }
        half = newHalf;
        generation = newGeneration;
        root = newRoot;
        count = newCount;
        return true;
    }

    private boolean storeRecord(int sector, long value) {
        int place = recordPlace(half, listSize);
        if (!storeWord(place, encipher(sector, place, generation))
                || !storeValue(place + 1, value, generation)) {
            return false;
        }
        int link = chainBehind(place);
        if (!storeWord(place + MARK_WORD, markOf(link))) {
            return false;
        }
        chain = link;
        return true;
    }

    private boolean clearMarks(int h) {
        for (int k = 0; k < RECORDS; k++) {
            if (!storeWord(recordPlace(h, k) + MARK_WORD, 0)) {
                return false;
            }
        }
        return true;
    }

    private boolean storeSectors(int h, int g) {
        for (int s = 0; s < SECTORS; s++) {
            if (!storeValue(sectorPlace(h, s), valueOf(s), g)) {
                return false;
            }
        }
        return true;
    }

    private boolean storeNodes(int h, int g) {
        for (int node = LAST_NODE; node >= 1; node--) {
            if (!storeWord(nodePlace(h, node), dueNode(h, node, g))) {
                return false;
            }
        }
        return true;
    }

    /** A checkpoint: answers the new generation, REFUSED or CUT. */
    private int moveToOtherHalf() {
        if (soundSectors() != ALL_SECTORS) {
            return REFUSED;
        }
        int other = 1 - half;
        int next = generation + 1;
        if (!clearMarks(other) || !storeSectors(other, next) || !storeNodes(other, next)
                || !changeSeal(other, next, disk[nodePlace(other, 1)], 0)) {
            return CUT;
        }
        beginList();
        return next;
    }
}
