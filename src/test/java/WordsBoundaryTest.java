/** "Terms": the words that wrap, the places of the disk, the two words of a value, the nodes. */
public final class WordsBoundaryTest {
    private static final Check check = new Check();

    // Worked out outside Java, with whole numbers that do not wrap, modulo 2^32.
    private static final int[] NEW_TREE = {
        566889563, -1866669900, -5190483, 1856272518, 1711033398, -722579440, 1139010569, -1294485406,
        -1439700078, 421659531, -2011909148, -150406179, -295621874, 1565840231, -867810496, 993737657,
        1951699505, 1185204036, -916101086, -962991727, 1448663378, 2951752, 1517324695, 121210907,
        -1312479438, 406197077, -1152809479, -874847709, 2016525355, 1297887734, -988422998};
    private static final int[] TWO_RECORDS = {
        1275377088, 2143776833, -1865211800, -1187695917, 1293058026, 1147817754, 861888371, 902071471};
    private static final int[] SECOND_TREE = {
        -759309094, 1242943370, 956809133, -1476759468, 384736383, -42186407, 1819409728, -614129301,
        1247321362, 1102014717, -1331544860, 529985679, -1903469386, 274998122, 11039987, 297059528,
        -1441706862, 1142371954, 1908227559, -1976550173, -343077887, 2137573651, -1625707134, 1799530685,
        1927128957, -1368588064, -337767527, 1857910451, 1552648117, 265527077, 1335440762};
    private static final int[] RECORD_OF_HALF_1 = {-15582842, 1846011308, 1700778265, -440920707};

    private static final long[] EDGES = {
        0, 1, 2147483647L, 2147483648L, 4294967295L, 4294967296L, 9223372032559808512L,
        9223372034707292160L, Long.MAX_VALUE - 1, Long.MAX_VALUE};

    public static void main(String[] args) {
        arithmeticWraps();
        wordsAtFirst();
        recordsTakeTheirPlacesAlone();
        checkpointTakesItsPlacesAlone();
        valuesOfEveryEdge();
        lastLeafAndFirstInnerNode();
        wordEncipheredForItsOwnPlace();
        check.end();
    }

    private static void dueWords(String when, SealedSectors x, int begin, int[] words) {
        for (int i = 0; i < words.length; i++) {
            check.due(when + ": peek(" + (begin + i) + ")", x.peek(begin + i), words[i]);
        }
    }

    private static void arithmeticWraps() {
        check.about("All arithmetic on words (ints) wraps.");
        SealedSectors x = new SealedSectors();
        dueWords("new", x, 0, NEW_TREE);
        check.due("seal(2)", x.seal(2), NEW_TREE[16]);
        x.mount();
        x.write(7, Long.MAX_VALUE);
        x.write(0, 2147483648L);
        dueWords("two writes", x, 31, TWO_RECORDS);
        x.checkpoint();
        dueWords("checkpoint", x, 51, SECOND_TREE);
        check.due("seal(2)", x.seal(2), SECOND_TREE[16]);
        x.write(3, 5);
        dueWords("a write in half 1", x, 82, RECORD_OF_HALF_1);
    }

    private static void wordsAtFirst() {
        check.about("its records 0, all words of half 1 are 0, and the seal is 0, 1, node 1, 0");
        SealedSectors x = new SealedSectors();
        for (int p = 31; p <= 101; p++) {
            check.due("peek(" + p + ")", x.peek(p), 0);
        }
        int[] seal = {0, 1, NEW_TREE[16], 0};
        for (int k = 0; k < 4; k++) {
            check.due("seal(" + k + ")", x.seal(k), seal[k]);
        }
    }

    /** Checks that of all places just those are altered that are told. */
    private static void dueChanges(String when, SealedSectors x, Shot before, boolean[] changed) {
        for (int p = 0; p < Words.PLACES; p++) {
            check.due(when + ": place " + p + " changed", x.peek(p) != before.disk[p], changed[p]);
        }
    }

    /** Every word of the disk is something that the class would hardly write. */
    private static void soil(SealedSectors x, int begin, int end) {
        for (int p = begin; p < end; p++) {
            Words.put(x, p, 0x5A5A0000 + p);
        }
    }

    /** An object in a half, in as few calls as may be: it is looked at word by word afterwards. */
    private static SealedSectors inHalf(int half) {
        SealedSectors x = new SealedSectors();
        x.mount();
        if (half == 1) {
            x.checkpoint();
        }
        return x;
    }

    private static void recordsTakeTheirPlacesAlone() {
        check.about("words 31 .. 50 are five RECORDS of four words");
        for (int half = 0; half < 2; half++) {
            for (int k = 0; k < 5; k++) {
                recordTakesItsPlacesAlone(half, k);
            }
        }
    }

    private static void recordTakesItsPlacesAlone(int half, int k) {
        SealedSectors x = inHalf(half);
        soil(x, 51 * half + 31, 51 * half + 51);
        for (int i = 0; i < k; i++) {
            x.write(i + 3, 1000 + i);
        }
        Shot before = Shot.of(x);
        check.due("write " + k, x.write(k + 3, 1000 + k), k + 1);
        boolean[] changed = new boolean[Words.PLACES];
        for (int i = 0; i < 4; i++) {
            changed[51 * half + 31 + 4 * k + i] = true;
        }
        dueChanges("half " + half + ", write " + k, x, before, changed);
    }

    private static void checkpointTakesItsPlacesAlone() {
        check.about("THE DISK has 102 words at PLACES 0 .. 101, in two HALVES of 51: half h begins at place 51 * h.");
        for (int o = 0; o < 2; o++) {
            SealedSectors x = inHalf(1 - o);
            soil(x, 51 * o, 51 * o + 51);
            Shot before = Shot.of(x);
            boolean[] changed = new boolean[Words.PLACES];
            for (int word = 0; word < 51; word++) {
                changed[51 * o + word] = word <= 30 || word % 4 == 2;
            }
            check.due("checkpoint()", x.checkpoint(), 3 - o);
            dueChanges("checkpoint to half " + o, x, before, changed);
            for (int k = 0; k < 5; k++) {
                check.due("mark of record " + k, x.peek(51 * o + 34 + 4 * k), 0);
            }
        }
    }

    private static int deciphered(SealedSectors x, int place) {
        return Words.enciphered(x.peek(place), place, x.seal(1));
    }

    private static void valuesOfEveryEdge() {
        check.about("A sector's VALUE is a long, 0 or greater: its upper 32 bits .. its lower 32 bits ..");
        for (long value : EDGES) {
            for (int s = 0; s < 8; s += 7) {
                SealedSectors x = new SealedSectors();
                String call = "write(" + s + ", " + value + "): ";
                x.mount();
                check.due(call + "write()", x.write(s, value), 1);
                check.due(call + "read()", x.read(s), value);
                check.due(call + "record's sector", deciphered(x, 31), s);
                check.due(call + "record's upper", deciphered(x, 32), value >> 32);
                check.due(call + "record's lower", deciphered(x, 33), (int) value);
                check.due(call + "mount()", x.mount(), 1);
                check.due(call + "read() behind mount", x.read(s), value);
                check.due(call + "checkpoint()", x.checkpoint(), 2);
                check.due(call + "sector's upper", deciphered(x, 51 + 2 * s), value >> 32);
                check.due(call + "sector's lower", deciphered(x, 52 + 2 * s), (int) value);
                check.due(call + "read() behind checkpoint", x.read(s), value);
                check.due(call + "read() of another", x.read(s == 0 ? 1 : 6), 0);
            }
        }
    }

    private static void lastLeafAndFirstInnerNode() {
        check.about("Node 8 + s is DIGEST(DIGEST(8 * g + s, c), d) ..; node i below 8 is DIGEST(node 2 * i, node 2 * i + 1).");
        SealedSectors x = new SealedSectors();
        x.mount();
        for (int g = 1; g <= 4; g++) {
            int begin = 51 * x.seal(0);
            for (int s = 0; s < 8; s++) {
                check.due("generation " + g + ", node " + (8 + s), x.peek(begin + 23 + s),
                        Words.digest(Words.digest(8 * g + s, x.peek(begin + 2 * s)), x.peek(begin + 2 * s + 1)));
            }
            for (int i = 1; i < 8; i++) {
                check.due("generation " + g + ", node " + i, x.peek(begin + 15 + i),
                        Words.digest(x.peek(begin + 15 + 2 * i), x.peek(begin + 16 + 2 * i)));
            }
            check.due("generation " + g + ": ROOT is node 1", x.seal(2), x.peek(begin + 16));
            x.write(g, 77L * g);
            x.checkpoint();
        }
    }

    private static void wordEncipheredForItsOwnPlace() {
        check.about("A value v is ENCIPHERED for a place p in a generation g as v ^ DIGEST(DIGEST(19088743, g), p)");
        SealedSectors x = new SealedSectors();
        x.mount();
        for (int i = 0; i < 5; i++) {
            x.write(4, 9);
        }
        for (int g = 1; g <= 3; g++) {
            for (int s = 0; s < 8; s++) {
                int place = 51 * x.seal(0) + 2 * s;
                int low = g > 1 && s == 4 ? 9 : 0;
                int key = Words.digest(19088743, g);
                check.due("generation " + g + ", place " + place, x.peek(place), Words.digest(key, place));
                check.due("generation " + g + ", place " + (place + 1), x.peek(place + 1),
                        low ^ Words.digest(key, place + 1));
            }
            x.checkpoint();
        }
    }
}
