/** "Terms": what a sector has and when it has no value; and the edges of promises 6 and 13. */
public final class SectorBoundaryTest {
    private static final Check check = new Check();

    public static void main(String[] args) {
        latestWriteOfTheList();
        listWhateverTheDiskSays();
        lookedUpInTheHalfOfTheSeal();
        workedOutWithItsGeneration();
        nodeBesideAsItStandsOnTheDisk();
        nodesOnItsOwnWayDoNotMatter();
        rootIsTheSeals();
        valueDecipheredMayNotBeNegative();
        readOutOfRange();
        readMakesNoStep();
        soundFromNoneToAll();
        offBeforeAll();
        check.end();
    }

    private static SealedSectors mounted() {
        SealedSectors x = new SealedSectors();
        x.mount();
        return x;
    }

    private static void latestWriteOfTheList() {
        check.about("What a sector HAS is the value of the latest write to it in the list");
        SealedSectors x = mounted();
        long[] values = {3, 0, Long.MAX_VALUE, 3, 1};
        for (int i = 0; i < 5; i++) {
            x.write(7, values[i]);
            check.due("read(7) behind write " + i, x.read(7), values[i]);
            check.due("read(6) behind write " + i, x.read(6), 0);
        }
        x.mount();
        check.due("read(7) behind mount", x.read(7), 1);
        x.checkpoint();
        check.due("read(7) behind checkpoint", x.read(7), 1);
        x.write(7, 0);
        check.due("read(7) when the latest is 0", x.read(7), 0);
    }

    private static void listWhateverTheDiskSays() {
        check.about("What a sector has (by the list, if it is there, whatever the disk says).");
        SealedSectors x = mounted();
        x.write(0, 10);
        x.write(7, 70);
        for (int p = 0; p < Words.PLACES; p++) {
            x.alter(p, -1 - p);
        }
        for (int s = 0; s < 8; s++) {
            check.due("read(" + s + ")", x.read(s), s == 0 ? 10 : s == 7 ? 70 : -3);
        }
        check.due("sound()", x.sound(), 129);
    }

    private static void lookedUpInTheHalfOfTheSeal() {
        check.about("from the words of the sector in half HALF");
        SealedSectors x = mounted();
        x.write(2, 5);
        x.checkpoint();
        for (int word = 0; word < 51; word++) {
            x.alter(word, 3);
        }
        check.due("sound() with the other half altered", x.sound(), 255);
        check.due("read(2)", x.read(2), 5);
        x.checkpoint();
        for (int word = 51; word < 102; word++) {
            x.alter(word, 3);
        }
        check.due("sound() with the other half altered", x.sound(), 255);
        check.due("read(2)", x.read(2), 5);
        for (int place = 0; place < 16; place++) {
            x.alter(place, 1 << 2 * place);
            check.due("read(" + place / 2 + ") with place " + place + " altered", x.read(place / 2), -3);
            check.due("read of another with place " + place + " altered", x.read(7 - place / 2) >= 0, true);
            x.alter(place, 1 << 2 * place);
        }
    }

    /** A tree of an older generation, put back whole, is no tree of this one. */
    private static void workedOutWithItsGeneration() {
        check.about("its node (8 + its number) is worked out with GENERATION");
        SealedSectors x = mounted();
        Shot first = Shot.of(x);
        x.write(4, 44);
        x.checkpoint();
        x.checkpoint();
        Shot third = Shot.of(x);
        check.due("sound()", x.sound(), 255);
        for (int p = 0; p < 51; p++) {
            Words.put(x, p, first.disk[p]);
        }
        check.due("sound() with the half of generation 1 put back", x.sound(), 0);
        check.due("read(4)", x.read(4), -3);
        for (int p = 0; p < 51; p++) {
            Words.put(x, p, third.disk[p]);
        }
        check.due("sound() with the half of generation 3 put back", x.sound(), 255);
        check.due("read(4)", x.read(4), 44);
    }

    private static void nodeBesideAsItStandsOnTheDisk() {
        check.about("with the node beside it on the way up as it stands on the disk each time "
                + "(nodes 2 * i and 2 * i + 1 are beside one another)");
        int[] sound = {
            255 - 0xF0, 255 - 0x0F, 255 - 0x0C, 255 - 0x03, 255 - 0xC0, 255 - 0x30,
            253, 254, 247, 251, 223, 239, 127, 191};
        for (int half = 0; half < 2; half++) {
            SealedSectors x = mounted();
            if (half == 1) {
                x.checkpoint();
            }
            for (int node = 2; node <= 15; node++) {
                x.alter(Words.node(half, node), 1);
                check.due("half " + half + ": sound() with node " + node + " altered", x.sound(), sound[node - 2]);
                x.alter(Words.node(half, node), 1);
            }
        }
    }

    private static void nodesOnItsOwnWayDoNotMatter() {
        check.about("the nodes above it, up to node 1");
        for (int s = 0; s < 8; s++) {
            SealedSectors x = mounted();
            for (int node = 8 + s; node >= 1; node /= 2) {
                x.alter(Words.node(0, node), 0x10001);
            }
            check.due("read(" + s + ") with all nodes of its own way altered", x.read(s), 0);
            check.due("sound()", x.sound(), 1 << s);
        }
    }

    private static void rootIsTheSeals() {
        check.about("when that is ROOT, the sector has the value ..; otherwise it has none");
        SealedSectors x = mounted();
        x.alter(Words.node(0, 1), -1);
        check.due("sound() with node 1 altered on the disk", x.sound(), 255);
        // A whole tree, in order but of another ROOT.
        int[] forged = Words.treeWords(0, 1, new long[] {1, 2, 3, 4, 5, 6, 7, 8});
        for (int p = 0; p < forged.length; p++) {
            Words.put(x, p, forged[p]);
        }
        check.due("sound() with a forged tree", x.sound(), 0);
        for (int s = 0; s < 8; s++) {
            check.due("read(" + s + ")", x.read(s), -3);
        }
    }

    /** Gives sector s words of another value whose node is the old one. */
    private static long forgeSector(SealedSectors x, int s, int upper) {
        int place = Words.sector(x.seal(0), s);
        int g = x.seal(1);
        int leaf = Words.leaf(g, s, x.peek(place), x.peek(place + 1));
        int c = Words.enciphered(upper, place, g);
        int d = Words.undigest(Words.digest(8 * g + s, c), leaf);
        Words.put(x, place, c);
        Words.put(x, place + 1, d);
        return Words.joined(upper, Words.enciphered(d, place + 1, g));
    }

    private static void valueDecipheredMayNotBeNegative() {
        check.about("the value that its two words are deciphered to in GENERATION, if that is not negative");
        for (int s = 0; s < 8; s++) {
            SealedSectors x = mounted();
            for (int upper : new int[] {Integer.MIN_VALUE, -1, -2}) {
                forgeSector(x, s, upper);
                check.due("read(" + s + ") with upper bits " + upper, x.read(s), -3);
                check.due("sound()", x.sound(), 255 - (1 << s));
                check.due("checkpoint()", x.checkpoint(), -3);
            }
            for (int upper : new int[] {0, 1, Integer.MAX_VALUE}) {
                long value = forgeSector(x, s, upper);
                check.due("read(" + s + ") with upper bits " + upper, x.read(s), value);
                check.due("sound()", x.sound(), 255);
            }
        }
    }

    private static void readOutOfRange() {
        check.about("BAD when sector is not 0 .. 7; REFUSED when it has no value.");
        SealedSectors x = mounted();
        for (int s : new int[] {-1, 8, 9, -8, 16, Integer.MIN_VALUE, Integer.MAX_VALUE}) {
            check.due("read(" + s + ")", x.read(s), -2);
        }
        check.due("read(0)", x.read(0), 0);
        check.due("read(7)", x.read(7), 0);
        x.alter(0, 1);
        x.alter(15, 1);
        check.due("read(0) altered", x.read(0), -3);
        check.due("read(7) altered", x.read(7), -3);
        check.due("read(-1)", x.read(-1), -2);
        check.due("read(8)", x.read(8), -2);
    }

    private static void readMakesNoStep() {
        check.about("STEPS: to write one word of the disk, or to change the seal.");
        SealedSectors x = mounted();
        x.alter(2, 1);
        Shot before = Shot.of(x);
        x.arm(0);
        for (int s = -1; s <= 8; s++) {
            x.read(s);
        }
        x.sound();
        x.writes();
        check.due("isOn()", x.isOn(), true);
        check.due("steps()", x.steps(), 0);
        check.same("reads", Shot.of(x), before);
        check.due("sync()", x.sync(), -4);
    }

    private static void soundFromNoneToAll() {
        check.about("The sum of 2^s over the sectors s that have a value (by the list or looked up); OFF.");
        SealedSectors x = mounted();
        check.due("sound() of all", x.sound(), 255);
        for (int s = 0; s < 8; s++) {
            x.alter(Words.sector(0, s), 1);
            check.due("sound() without 0 .. " + s, x.sound(), 255 & -2 << s);
        }
        int sum = 0;
        for (int s : new int[] {7, 0, 3, 3, 5}) {
            x.write(s, 0);
            sum |= 1 << s;
            check.due("sound() by the list", x.sound(), sum);
        }
        x.arm(0);
        x.sync();
        check.due("sound() while off", x.sound(), -1);
    }

    private static void offBeforeAll() {
        check.about("OFF; BAD when sector is not 0 .. 7");
        SealedSectors x = new SealedSectors();
        for (int s : new int[] {0, 7, -1, 8}) {
            check.due("read(" + s + ") while off", x.read(s), -1);
        }
        check.due("sound() while off", x.sound(), -1);
    }
}
