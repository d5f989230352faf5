/** The disk and the seal as they stood at one moment. */
final class Shot {
    final int[] disk = new int[Words.PLACES];
    final int[] seal = new int[4];

    private Shot() {
    }

    static Shot of(SealedSectors x) {
        Shot shot = new Shot();
        for (int p = 0; p < Words.PLACES; p++) {
            shot.disk[p] = x.peek(p);
        }
        for (int k = 0; k < 4; k++) {
            shot.seal[k] = x.seal(k);
        }
        return shot;
    }

    Shot copy() {
        Shot shot = new Shot();
        System.arraycopy(disk, 0, shot.disk, 0, disk.length);
        System.arraycopy(seal, 0, shot.seal, 0, seal.length);
        return shot;
    }
}
