import java.util.ArrayList;
import java.util.List;
import java.util.Map;
import java.util.Random;
import java.util.TreeMap;

/** Random runs of at most 512 calls, each answer compared with the model's; always the same runs. */
public final class RandomRunsTest {
    private static final int RUNS = 1500;
    private static final int CALLS = 370;
    private static final String[] MUST_OCCUR = {
        "mount -3", "mount 0", "mount 5", "write -1", "write -2", "write -3", "write -4", "write 1",
        "write 5", "read -1", "read -2", "read -3", "sync -1", "sync -4", "sync 0", "sync 5",
        "checkpoint -1", "checkpoint -3", "checkpoint -4", "checkpoint 2", "checkpoint 3", "sound -1",
        "sound 255", "writes -1", "writes 5"};

    private static final Check check = new Check();
    private static final Map<String, Integer> seen = new TreeMap<>();

    private final Random random;
    private final String name;
    private final SealedSectors x = new SealedSectors();
    private final Model model = new Model();
    private final List<int[]> altered = new ArrayList<>();
    private int calls = 0;

    private RandomRunsTest(int seed) {
        random = new Random(seed);
        name = "run " + seed;
    }

    public static void main(String[] args) {
        for (int seed = 0; seed < RUNS; seed++) {
            new RandomRunsTest(seed).go();
        }
        for (String answer : MUST_OCCUR) {
            check.due("the runs have the answer '" + answer + "'", seen.containsKey(answer), true);
        }
        check.end();
    }

    private void go() {
        same("mount()", x.mount(), model.mount());
        while (calls < CALLS) {
            oneMove();
        }
        askAll();
    }

    private void same(String call, long got, long want) {
        calls++;
        check.due(name + ", call " + calls + ": " + call, got, want);
        seen.merge(call.substring(0, call.indexOf('(')) + " " + want, 1, Integer::sum);
    }

    private void same(String call, boolean got, boolean want) {
        same(call, got ? 1 : 0, want ? 1 : 0);
    }

    private void oneMove() {
        int kind = random.nextInt(100);
        if (kind < 30) {
            int sector = random.nextInt(20) == 0 ? random.nextInt() : random.nextInt(8);
            long value = someValue();
            same("write(" + sector + ", " + value + ")", x.write(sector, value), model.write(sector, value));
        } else if (kind < 42) {
            int sector = random.nextInt(10) - 1;
            same("read(" + sector + ")", x.read(sector), model.read(sector));
        } else if (kind < 55) {
            same("mount()", x.mount(), model.mount());
        } else if (kind < 62) {
            same("sync()", x.sync(), model.sync());
        } else if (kind < 67) {
            same("checkpoint()", x.checkpoint(), model.checkpoint());
        } else if (kind < 72) {
            int n = random.nextInt(10) == 0 ? -1 - random.nextInt(3) : random.nextInt(60);
            same("arm(" + n + ")", x.arm(n), model.arm(n));
        } else if (kind < 80) {
            ask();
        } else if (kind < 90) {
            mend();
        } else if (kind < 95) {
            alter(random.nextInt(108) - 3, random.nextBoolean() ? 1 << random.nextInt(32) : random.nextInt());
        } else if (kind < 98) {
            forgeRecords();
        } else {
            forgeSector();
        }
    }

    private long someValue() {
        switch (random.nextInt(8)) {
            case 0:
                return random.nextLong();
            case 1:
                return Long.MAX_VALUE;
            case 2:
                return Integer.toUnsignedLong(random.nextInt());
            case 3:
                return 0;
            default:
                return random.nextInt(3) == 0 ? random.nextInt(4) : random.nextLong() >>> 1;
        }
    }

    private void ask() {
        int p = random.nextInt(106) - 2;
        int k = random.nextInt(6) - 1;
        same("peek(" + p + ")", x.peek(p), model.peek(p));
        same("seal(" + k + ")", x.seal(k), model.seal(k));
        askLight();
    }

    private void askLight() {
        same("sound()", x.sound(), model.sound());
        same("writes()", x.writes(), model.writes());
        same("isOn()", x.isOn(), model.on);
        same("steps()", x.steps(), model.steps);
    }

    private void alter(int p, int bits) {
        same("alter(" + p + ", " + bits + ")", x.alter(p, bits), model.alter(p, bits));
        altered.add(new int[] {p, bits});
    }

    private void put(int p, int word) {
        alter(p, model.peek(p) ^ word);
    }

    /** Without it nearly all of a run would be refusals. */
    private void mend() {
        for (int i = altered.size(); i-- > 0;) {
            int[] was = altered.remove(i);
            same("alter(" + was[0] + ", " + was[1] + ")", x.alter(was[0], was[1]), model.alter(was[0], was[1]));
        }
    }

    private void forgeRecords() {
        int link = Words.firstChain(model.root, model.generation);
        int records = 1 + random.nextInt(5);
        for (int k = 0; k < records; k++) {
            int place = Words.record(model.half, k);
            int sector = random.nextInt(12) == 0 ? random.nextInt(11) - 1 : random.nextInt(8);
            int upper = random.nextInt(12) == 0 ? random.nextInt() : random.nextInt() >>> 1;
            int[] words = Words.recordWords(place, model.generation, link, sector, upper, random.nextInt());
            for (int i = 0; i < 4; i++) {
                put(place + i, words[i]);
            }
            link = words[4];
        }
        same("mount()", x.mount(), model.mount());
        altered.clear();
    }

    private void forgeSector() {
        int s = random.nextInt(8);
        int place = Words.sector(model.half, s);
        int leaf = Words.leaf(model.generation, s, model.disk[place], model.disk[place + 1]);
        int c = Words.enciphered(random.nextInt(), place, model.generation);
        put(place, c);
        put(place + 1, Words.undigest(Words.digest(8 * model.generation + s, c), leaf));
        same("read(" + s + ")", x.read(s), model.read(s));
    }

    private void askAll() {
        for (int p = 0; p < Words.PLACES; p++) {
            same("peek(" + p + ")", x.peek(p), model.peek(p));
        }
        for (int k = 0; k < 4; k++) {
            same("seal(" + k + ")", x.seal(k), model.seal(k));
        }
        askLight();
        check.due(name + " has at most 512 calls", calls <= 512, true);
    }
}
