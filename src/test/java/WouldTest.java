/** Promises 22 to 26: what would be, and that nothing is changed by asking it. */
public final class WouldTest {
    private static final Check CHECK = new Check();

    public static void main(String[] args) {
        unknown();
        secondsOfMoves();
        secondsOfMotors();
        secondsAndPeople();
        secondsInPlaceOfWhatRuns();
        secondsWithWholeBrakes();
        secondsUpTo200();
        stopsAtTheFirst();
        stopsByDrops();
        stopsOfWhatFollowsDoNotCount();
        hurts();
        hurtsByWhatRuns();
        hurtsWhileWaiting();
        hurtsWhileStopped();
        fitsOfOne();
        fitsBehindFormer();
        fitsFromEachFormer();
        fitsNowhere();
        digestByItsWords();
        digestOfHurts();
        fullTower();
        CHECK.end();
    }

    private static void unknown() {
        FlyTower tower = new FlyTower();
        CHECK.dueThrow("secondsFor(0)", tower, Check.INDEX, () -> tower.secondsFor(0));
        CHECK.dueThrow("stopsAt(0)", tower, Check.INDEX, () -> tower.stopsAt(0));
        tower.cue(-1);
        CHECK.dueThrow("secondsFor(-1)", tower, Check.INDEX, () -> tower.secondsFor(-1));
        CHECK.dueThrow("secondsFor(1)", tower, Check.INDEX, () -> tower.secondsFor(1));
        CHECK.dueThrow("stopsAt(-1)", tower, Check.INDEX, () -> tower.stopsAt(-1));
        CHECK.dueThrow("stopsAt(1)", tower, Check.INDEX, () -> tower.stopsAt(1));
        CHECK.dueThrow("wouldHurt(0)", tower, Check.ARGUMENT, () -> tower.wouldHurt(0));
        CHECK.dueThrow("wouldHurt(-1)", tower, Check.ARGUMENT, () -> tower.wouldHurt(-1));
        CHECK.dueThrow("wouldHurt(61)", tower, Check.ARGUMENT, () -> tower.wouldHurt(61));
        CHECK.dueThrow("fits(1) without pieces", tower, Check.ARGUMENT, () -> tower.fits(1));
        tower.piece(1, 0, 0);
        CHECK.dueThrow("fits(2)", tower, Check.ARGUMENT, () -> tower.fits(2));
        CHECK.dueThrow("fits(3)", tower, Check.ARGUMENT, () -> tower.fits(3));
        CHECK.dueThrow("fits(-1)", tower, Check.ARGUMENT, () -> tower.fits(-1));
        CHECK.dueThrow("fits: the last bit", tower, Check.ARGUMENT, () -> tower.fits(Integer.MIN_VALUE));
        for (int p = 1; p < 10; p++) {
            tower.piece(1, 0, 0);
        }
        CHECK.dueThrow("fits: bit 10", tower, Check.ARGUMENT, () -> tower.fits(1024));
    }

    private static void secondsOfMoves() {
        FlyTower tower = new FlyTower();
        tower.bar(true, 100);
        tower.bar(false, 100);
        tower.bar(false, 100);
        tower.crew(1);
        tower.cue(-1);
        CHECK.due("secondsFor() without moves", tower.secondsFor(0), 1);
        tower.move(0, 0, 20, 6, 3);
        CHECK.due("secondsFor() with a delay", tower.secondsFor(0), 7);
        tower.cue(0);
        tower.move(1, 1, 12, 6, 0);
        tower.move(1, 2, 12, 6, 0);
        CHECK.due("secondsFor() with one operator", tower.secondsFor(1), 4);
        tower.crew(2);
        CHECK.due("secondsFor() with two operators", tower.secondsFor(1), 2);
        tower.crew(0);
        CHECK.due("secondsFor() with none", tower.secondsFor(1), -1);
        tower.counter(1, 20);
        tower.counter(2, 20);
        CHECK.due("secondsFor() with all refused", tower.secondsFor(1), 1);
        CHECK.due("secondsFor() changes no height", tower.ofBar(0, 2), 0);
        CHECK.due("secondsFor() changes no move", tower.ofMove(0, 0, 4), -1);
        CHECK.due("secondsFor() lets no time go by", tower.many(0), 0);
    }

    private static void secondsOfMotors() {
        FlyTower tower = new FlyTower();
        tower.crew(0);
        tower.bar(true, 100);
        tower.piece(90, 0, 0);
        tower.hang(0, 0);
        tower.cue(-1);
        tower.move(0, 0, 60, 6, 0);
        CHECK.due("secondsFor() a motor", tower.secondsFor(0), 10);
    }

    private static void secondsAndPeople() {
        FlyTower tower = new FlyTower();
        tower.bar(true, 100);
        tower.cue(-1);
        tower.move(0, 0, 60, 6, 0);
        tower.below(0, true, false);
        CHECK.due("secondsFor() above people", tower.secondsFor(0), -1);
        tower.below(0, true, true);
        CHECK.due("secondsFor() above people, watched", tower.secondsFor(0), 10);
        tower.below(0, false, false);
        CHECK.due("secondsFor() not watched, without people", tower.secondsFor(0), 10);
    }

    private static void secondsInPlaceOfWhatRuns() {
        FlyTower tower = new FlyTower();
        tower.bar(true, 100);
        tower.bar(true, 100);
        tower.cue(-1);
        tower.move(0, 0, 60, 6, 0);
        tower.cue(-1);
        tower.move(1, 0, 0, 3, 2);
        tower.go(0);
        tower.pass(4);
        tower.stop(true);
        CHECK.due("secondsFor() the one that runs, anew", tower.secondsFor(0), 6);
        CHECK.due("secondsFor() another one", tower.secondsFor(1), 10);
        CHECK.due("secondsFor(): what runs", tower.many(5), 0);
        CHECK.due("secondsFor(): stopped", tower.many(6), 1);
        CHECK.due("secondsFor(): elapsed", tower.many(7), 4);
        CHECK.due("secondsFor(): height", tower.ofBar(0, 2), 24);
    }

    private static void secondsWithWholeBrakes() {
        FlyTower tower = new FlyTower();
        tower.bar(false, 100);
        tower.counter(0, 10);
        tower.brake(0, true);
        tower.cue(-1);
        tower.move(0, 0, 30, 1, 20);
        CHECK.due("secondsFor() with whole brakes", tower.secondsFor(0), 50);
        CHECK.due("secondsFor(): the brake is broken still", tower.ofBar(0, 10), 1);
        tower.go(0);
        CHECK.due("with a broken one it is there earlier", tower.pass(30), 1);
    }

    private static void secondsUpTo200() {
        FlyTower tower = new FlyTower();
        tower.crew(1);
        for (int b = 0; b < 2; b++) {
            tower.bar(false, 100);
        }
        tower.bar(false, 100);
        tower.cue(-1);
        tower.move(0, 0, 100, 1, 0);
        tower.move(0, 1, 100, 1, 0);
        CHECK.due("secondsFor() of 200", tower.secondsFor(0), 200);
        CHECK.due("stopsAt() of 200", tower.stopsAt(0), -1);
        tower.move(0, 2, 0, 1, 0);
        CHECK.due("secondsFor() of 201", tower.secondsFor(0), -1);
    }

    /** Four bars with motors: 1 bears a piece of thickness 1, and stands at 30. */
    private static FlyTower towerWithObstacle() {
        FlyTower tower = new FlyTower();
        for (int b = 0; b < 4; b++) {
            tower.bar(true, 100);
        }
        tower.piece(5, 0, 1);
        tower.hang(0, 1);
        tower.cue(-1);
        tower.move(0, 1, 30, 6, 0);
        tower.go(0);
        tower.pass(5);
        return tower;
    }

    private static void stopsAtTheFirst() {
        FlyTower tower = towerWithObstacle();
        tower.cue(-1);
        tower.move(1, 3, 60, 6, 0);
        tower.move(1, 2, 60, 5, 0);
        tower.move(1, 0, 60, 5, 0);
        CHECK.due("stopsAt() the first by its move", tower.stopsAt(1), 2);
        CHECK.due("secondsFor() a stopped one", tower.secondsFor(1), -1);
        CHECK.due("stopsAt(): near ones", tower.many(11), 0);
        tower.cue(-1);
        tower.move(2, 2, 60, 4, 0);
        tower.move(2, 3, 60, 6, 0);
        CHECK.due("stopsAt() none", tower.stopsAt(2), -1);
        CHECK.due("secondsFor() one that is not stopped", tower.secondsFor(2), 15);
        CHECK.due("stopsAt() as before", tower.stopsAt(1), 2);
        tower.cue(-1);
        tower.move(3, 0, 60, 6, 20);
        CHECK.due("stopsAt() bar 0", tower.stopsAt(3), 0);
    }

    private static void stopsByDrops() {
        FlyTower tower = towerOfBars(90, 90);
        tower.piece(5, 20, 1);
        tower.hang(0, 0);
        tower.cue(-1);
        tower.move(0, 0, 36, 6, 0);
        tower.cue(-1);
        tower.move(1, 1, 60, 5, 0);
        tower.cue(-1);
        tower.move(2, 0, 1, 6, 0);
        CHECK.due("stopsAt() while it touches already", tower.stopsAt(0), -1);
        tower.go(0);
        tower.pass(6);
        CHECK.due("stopsAt() below a drop", tower.stopsAt(1), 1);
        CHECK.due("stopsAt() with a drop", tower.stopsAt(2), 0);
    }

    private static void stopsOfWhatFollowsDoNotCount() {
        FlyTower tower = towerWithObstacle();
        tower.cue(2);
        tower.move(1, 2, 29, 6, 0);
        tower.cue(-1);
        tower.move(2, 2, 30, 6, 0);
        CHECK.due("secondsFor() till it is over", tower.secondsFor(1), 5);
        CHECK.due("stopsAt() what follows does not count", tower.stopsAt(1), -1);
        tower.go(1);
        tower.pass(6);
        CHECK.due("what follows is near", tower.many(11), 1);
        CHECK.due("stopsAt() from there", tower.stopsAt(2), 2);
    }

    private static void hurts() {
        FlyTower tower = new FlyTower();
        tower.bar(false, 100);
        tower.piece(10, 0, 0);
        tower.hang(0, 0);
        tower.cue(-1);
        tower.move(0, 0, 22, 6, 0);
        tower.go(0);
        tower.pass(4);
        tower.below(0, true, true);
        CHECK.due("wouldHurt() with a whole brake", tower.wouldHurt(60), 0);
        tower.brake(0, true);
        CHECK.due("wouldHurt(1)", tower.wouldHurt(1), 0);
        CHECK.due("wouldHurt(2)", tower.wouldHurt(2), 1);
        CHECK.due("wouldHurt(9)", tower.wouldHurt(9), 8);
        CHECK.due("wouldHurt(60)", tower.wouldHurt(60), 21);
        CHECK.due("wouldHurt(): height", tower.ofBar(0, 2), 22);
        tower.pass(12);
        CHECK.due("wouldHurt(): those of before do not count", tower.wouldHurt(60), 10);
    }

    private static void hurtsByWhatRuns() {
        FlyTower tower = new FlyTower();
        tower.bar(false, 100);
        tower.piece(10, 0, 0);
        tower.hang(0, 0);
        tower.below(0, true, true);
        tower.brake(0, true);
        tower.cue(1);
        tower.move(0, 0, 6, 6, 0);
        tower.cue(-1);
        tower.move(1, 0, 12, 6, 4);
        tower.go(0);
        CHECK.due("wouldHurt() while what follows waits", tower.wouldHurt(5), 4);
        CHECK.due("wouldHurt() not while it moves", tower.wouldHurt(7), 4);
        CHECK.due("wouldHurt() behind both", tower.wouldHurt(9), 6);
        CHECK.due("wouldHurt(): what runs", tower.many(5), 0);
        CHECK.due("wouldHurt(): over", tower.many(9), 0);
        tower.pass(9);
        CHECK.due("they are hurt so", tower.many(13), 6);
    }

    /** A bar by hand at 12, heavier by 10 than its counter, above people, with a broken brake; cue 1 is told. */
    private static FlyTower sinking(int delay) {
        FlyTower tower = new FlyTower();
        tower.bar(false, 100);
        tower.piece(10, 0, 0);
        tower.hang(0, 0);
        tower.cue(-1);
        tower.move(0, 0, 12, 6, 0);
        tower.cue(-1);
        tower.move(1, 0, 120, 1, delay);
        tower.go(0);
        tower.pass(2);
        tower.below(0, true, true);
        tower.brake(0, true);
        return tower;
    }

    private static void hurtsWhileWaiting() {
        FlyTower tower = sinking(5);
        tower.go(1);
        CHECK.due("wouldHurt() till the delay is over", tower.wouldHurt(20), 5);
        tower.pass(3);
        CHECK.due("wouldHurt() in the rest of the delay", tower.wouldHurt(20), 2);
    }

    private static void hurtsWhileStopped() {
        FlyTower tower = sinking(0);
        tower.go(1);
        CHECK.due("wouldHurt() while it goes up", tower.wouldHurt(20), 0);
        tower.stop(true);
        CHECK.due("wouldHurt() while it is stopped", tower.wouldHurt(20), 12);
    }

    private static FlyTower towerOfBars(int... limits) {
        FlyTower tower = new FlyTower();
        for (int limit : limits) {
            tower.bar(true, limit);
        }
        return tower;
    }

    private static void fitsOfOne() {
        FlyTower tower = towerOfBars(20, 50, 50);
        CHECK.due("fits(0) without pieces", tower.fits(0), 0);
        tower.piece(20, 0, 2);
        tower.piece(21, 0, 2);
        tower.piece(51, 0, 2);
        CHECK.due("fits(0)", tower.fits(0), 0);
        CHECK.due("fits() of 20", tower.fits(1), 1);
        CHECK.due("fits() of 21", tower.fits(2), 2);
        CHECK.due("fits() of 51", tower.fits(4), 0);
        tower.hang(1, 1);
        CHECK.due("fits() as if nothing else hung", tower.fits(2), 2);
    }

    private static void fitsBehindFormer() {
        FlyTower tower = towerOfBars(90, 90, 20, 90, 20, 90);
        tower.piece(50, 0, 0);
        tower.piece(50, 0, 1);
        tower.piece(10, 0, 1);
        CHECK.due("fits() of 0 and 1", tower.fits(3), 1 + 8);
        CHECK.due("fits() of 1 and 2", tower.fits(6), 1 + 8);
        CHECK.due("fits() of 0 and 2", tower.fits(5), 1 + 4);
        CHECK.due("fits() of all, the last is too far behind", tower.fits(7), 0);
        tower.bar(true, 20);
        CHECK.due("fits() of all", tower.fits(7), 1 + 8 + 64);
    }

    private static void fitsFromEachFormer() {
        FlyTower tower = towerOfBars(90, 90, 90, 90, 90, 90, 90);
        tower.piece(1, 0, 2);
        tower.piece(1, 0, 0);
        tower.piece(1, 0, 2);
        tower.piece(1, 0, 0);
        tower.piece(1, 0, 0);
        CHECK.due("fits() of 2, 0, 2", tower.fits(7), 1 + 8 + 64);
        CHECK.due("fits() of 2, 0, 0", tower.fits(1 + 2 + 8), 1 + 8 + 16);
        CHECK.due("fits() of 0, 0", tower.fits(8 + 16), 1 + 2);
        FlyTower row = towerOfBars(90, 90, 90, 90, 90, 90, 90, 90);
        row.piece(1, 0, 2);
        row.piece(1, 0, 0);
        row.piece(1, 0, 0);
        row.piece(1, 0, 2);
        CHECK.due("fits() far from the first, too", row.fits(15), 1 + 8 + 16 + 128);
        CHECK.due("fits() of 2, 2", row.fits(9), 1 + 32);
    }

    private static void fitsNowhere() {
        FlyTower tower = towerOfBars(90, 20);
        tower.piece(50, 0, 0);
        tower.piece(50, 0, 0);
        CHECK.due("fits() not both", tower.fits(3), 0);
        CHECK.due("fits() the first", tower.fits(1), 1);
        CHECK.due("fits() the second", tower.fits(2), 1);
        FlyTower bare = new FlyTower();
        bare.piece(50, 0, 0);
        CHECK.due("fits() without bars", bare.fits(1), 0);
    }

    private static void digestByItsWords() {
        CHECK.due("digest() of a new one", new FlyTower().digest(), -8745273721740748652L);
        FlyTower tower = towerWithObstacle();
        tower.bar(false, 100);
        tower.counter(4, 30);
        tower.piece(30, 7, 2);
        tower.cue(-1);
        tower.move(1, 2, 60, 5, 0);
        tower.move(1, 4, 60, 5, 0);
        tower.brake(4, true);
        tower.go(1);
        tower.pass(3);
        CHECK.due("digest()", tower.digest(), Digest.of(tower));
        CHECK.due("digest() again", tower.digest(), Digest.of(tower));
    }

    private static void digestOfHurts() {
        FlyTower tower = sinking(0);
        CHECK.due("digest: hurt in 9", tower.wouldHurt(9), 9);
        CHECK.due("digest: hurt in 10", tower.wouldHurt(10), 10);
        CHECK.due("digest() with them", tower.digest(), Digest.of(tower));
    }

    private static void fullTower() {
        FlyTower tower = towerOfBars(90, 90, 90, 90, 90, 90, 90, 90);
        for (int p = 0; p < 10; p++) {
            tower.piece(p + 1, 6 * p, p % 3);
            tower.hang(p, p % 8);
        }
        for (int c = 0; c < 6; c++) {
            tower.cue(5 - c);
            for (int m = 0; m < 6; m++) {
                tower.move(c, (c + m) % 8, 10 * c + m, 6, m);
            }
            tower.go(c);
            tower.pass(30);
            if (tower.many(5) != -1) {
                tower.end();
            }
        }
        int sum = 0;
        for (int b = 0; b < 8; b++) {
            sum += tower.ofBar(b, 2);
        }
        CHECK.due("full: meanHeight()", tower.meanHeight(), sum / 8.0);
        CHECK.due("full: fits() of all ten", tower.fits(1023), 0);
        CHECK.due("full: fits() of the last", tower.fits(512), 1);
        CHECK.due("full: fits() of thicknesses 0, 1, 0, 1", tower.fits(1 + 2 + 8 + 16), 1 + 4 + 16 + 64);
        CHECK.due("full: moves", Digest.movesOf(tower, 5), 6);
        CHECK.due("full: digest()", tower.digest(), Digest.of(tower));
    }
}
