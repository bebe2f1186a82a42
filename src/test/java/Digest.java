/** The checksum by the words of promise 26, from the other answers. */
final class Digest {
    private long d = 9111;

    static long of(FlyTower tower) {
        Digest digest = new Digest();
        for (int what = 0; what < 16; what++) {
            digest.add(tower.many(what));
        }
        for (int b = 0; b < tower.many(1); b++) {
            for (int what = 0; what < 12; what++) {
                digest.add(tower.ofBar(b, what));
            }
        }
        for (int p = 0; p < tower.many(2); p++) {
            for (int what = 0; what < 4; what++) {
                digest.add(tower.ofPiece(p, what));
            }
        }
        for (int c = 0; c < tower.many(3); c++) {
            digest.addCue(tower, c);
        }
        digest.add(tower.wouldHurt(9));
        digest.add(tower.fits((1 << tower.many(2)) - 1));
        return digest.d;
    }

    /** How many MOVES a CUE has is asked by its last one. */
    static int movesOf(FlyTower tower, int cue) {
        int count = 0;
        while (count < 6 && isMove(tower, cue, count)) {
            count++;
        }
        return count;
    }

    private static boolean isMove(FlyTower tower, int cue, int move) {
        return Check.thrownBy(() -> tower.ofMove(cue, move, 0)) == null;
    }

    private void addCue(FlyTower tower, int cue) {
        int count = movesOf(tower, cue);
        for (int m = 0; m < count; m++) {
            for (int what = 0; what < 6; what++) {
                add(tower.ofMove(cue, m, what));
            }
        }
        add(tower.secondsFor(cue));
        add(tower.stopsAt(cue));
    }

    private void add(long v) {
        d = d * 31 + v;
    }
}
