import java.util.ArrayList;
import java.util.List;

/** The document told a second time, with the library's means, to compare long random runs with. */
final class Model {
    /** The step after those that were armed. */
    private static final class PowerCut extends Exception {
        private static final long serialVersionUID = 1;
    }

    private record Write(int sector, long value) {
    }

    final int[] disk = new int[Words.PLACES];
    int half = 0;
    int generation = 1;
    int root;
    int count = 0;
    boolean on = false;
    int steps = 0;
    private Integer armed = null;
    private List<Write> list = new ArrayList<>();
    int chain = 0;

    Model() {
        System.arraycopy(Words.treeWords(0, 1, new long[8]), 0, disk, 0, 31);
        root = disk[Words.node(0, 1)];
    }

    private void step() throws PowerCut {
        if (armed != null && armed == 0) {
            throw new PowerCut();
        }
        armed = armed == null ? null : Integer.valueOf(armed - 1);
        steps++;
    }

    private void store(int place, int word) throws PowerCut {
        step();
        disk[place] = word;
    }

    private int cut() {
        on = false;
        armed = null;
        list = new ArrayList<>();
        return -4;
    }

    int mount() {
        List<Write> good = new ArrayList<>();
        int link = Words.firstChain(root, generation);
        while (good.size() < 5) {
            int p = Words.record(half, good.size());
            int next = Words.nextChain(link, disk[p], disk[p + 1], disk[p + 2]);
            int sector = Words.enciphered(disk[p], p, generation);
            int upper = Words.enciphered(disk[p + 1], p + 1, generation);
            int lower = Words.enciphered(disk[p + 2], p + 2, generation);
            if (disk[p + 3] != (next | 1) || sector < 0 || sector > 7 || upper < 0) {
                break;
            }
            link = next;
            good.add(new Write(sector, Words.joined(upper, lower)));
        }
        on = good.size() >= count;
        list = on ? good : new ArrayList<>();
        chain = link;
        return on ? good.size() : -3;
    }

    boolean arm(int n) {
        armed = n < 0 ? armed : Integer.valueOf(n);
        return n >= 0;
    }

    private Long has(int sector) {
        for (int i = list.size(); i-- > 0;) {
            if (list.get(i).sector() == sector) {
                return list.get(i).value();
            }
        }
        int p = Words.sector(half, sector);
        if (climbed(8 + sector, Words.leaf(generation, sector, disk[p], disk[p + 1])) != root) {
            return null;
        }
        int upper = Words.enciphered(disk[p], p, generation);
        return upper < 0 ? null : Words.joined(upper, Words.enciphered(disk[p + 1], p + 1, generation));
    }

    private int climbed(int node, int word) {
        if (node == 1) {
            return word;
        }
        return node % 2 == 0
                ? climbed(node / 2, Words.digest(word, disk[Words.node(half, node + 1)]))
                : climbed(node / 2, Words.digest(disk[Words.node(half, node - 1)], word));
    }

    private boolean checkpointed() throws PowerCut {
        long[] values = new long[8];
        for (int s = 0; s < 8; s++) {
            Long value = has(s);
            if (value == null) {
                return false;
            }
            values[s] = value;
        }
        int[] tree = Words.treeWords(1 - half, generation + 1, values);
        for (int k = 0; k < 5; k++) {
            store(Words.record(1 - half, k) + 3, 0);
        }
        for (int i = 0; i < 16; i++) {
            store(51 - 51 * half + i, tree[i]);
        }
        for (int i = 30; i >= 16; i--) {
            store(51 - 51 * half + i, tree[i]);
        }
        step();
        half = 1 - half;
        generation++;
        root = tree[16];
        count = 0;
        list = new ArrayList<>();
        chain = Words.firstChain(root, generation);
        return true;
    }

    int checkpoint() {
        if (!on) {
            return -1;
        }
        try {
            return checkpointed() ? generation : -3;
        } catch (PowerCut e) {
            return cut();
        }
    }

    int write(int sector, long value) {
        if (!on) {
            return -1;
        }
        if (sector < 0 || sector > 7 || value < 0) {
            return -2;
        }
        try {
            if (list.size() == 5 && !checkpointed()) {
                return -3;
            }
            int p = Words.record(half, list.size());
            int[] words = Words.recordWords(p, generation, chain, sector,
                    Words.upper(value), Words.lower(value));
            for (int i = 0; i < 4; i++) {
                store(p + i, words[i]);
            }
            chain = words[4];
            list.add(new Write(sector, value));
            return list.size();
        } catch (PowerCut e) {
            return cut();
        }
    }

    long read(int sector) {
        if (!on) {
            return -1;
        }
        if (sector < 0 || sector > 7) {
            return -2;
        }
        Long value = has(sector);
        return value == null ? -3 : value;
    }

    int sync() {
        if (!on) {
            return -1;
        }
        try {
            step();
            count = list.size();
            return count;
        } catch (PowerCut e) {
            return cut();
        }
    }

    boolean alter(int p, int bits) {
        if (p < 0 || p > 101) {
            return false;
        }
        disk[p] ^= bits;
        return true;
    }

    int peek(int p) {
        return p < 0 || p > 101 ? 0 : disk[p];
    }

    int seal(int k) {
        return k < 0 || k > 3 ? 0 : new int[] {half, generation, root, count}[k];
    }

    int writes() {
        return on ? list.size() : -1;
    }

    int sound() {
        int sum = 0;
        for (int s = 0; s < 8; s++) {
            sum += has(s) == null ? 0 : 1 << s;
        }
        return on ? sum : -1;
    }
}
