/** Promises 8 to 15, as far as they are no rule of a second: what is done. */
public final class DoTest {
    private static final Check CHECK = new Check();

    public static void main(String[] args) {
        hangs();
        takes();
        counters();
        goes();
        stops();
        ends();
        brakes();
        passes();
        lastSecond();
        CHECK.end();
    }

    private static FlyTower towerWithBars() {
        FlyTower tower = new FlyTower();
        tower.bar(false, 100);
        tower.bar(true, 90);
        tower.cue(-1);
        tower.move(0, 0, 6, 6, 0);
        tower.move(0, 1, 6, 6, 0);
        return tower;
    }

    private static void hangs() {
        FlyTower tower = towerWithBars();
        tower.piece(60, 10, 2);
        tower.piece(40, 30, 1);
        tower.piece(1, 60, 0);
        tower.piece(90, 5, 0);
        CHECK.dueThrow("hang: piece 4", tower, Check.INDEX, () -> tower.hang(4, 0));
        CHECK.dueThrow("hang: piece -1", tower, Check.INDEX, () -> tower.hang(-1, 0));
        CHECK.dueThrow("hang: bar 2", tower, Check.INDEX, () -> tower.hang(0, 2));
        CHECK.dueThrow("hang: bar -1", tower, Check.INDEX, () -> tower.hang(0, -1));
        CHECK.due("hang(0, 0)", tower.hang(0, 0), 60);
        CHECK.dueThrow("hang: not in the store", tower, Check.STATE, () -> tower.hang(0, 1));
        CHECK.dueThrow("hang: on the same bar again", tower, Check.STATE, () -> tower.hang(0, 0));
        CHECK.dueThrow("hang: no such bar for a hung one", tower, Check.INDEX, () -> tower.hang(0, 2));
        CHECK.due("hang: up to the limit", tower.hang(1, 0), 100);
        CHECK.dueThrow("hang: above the limit", tower, Check.STATE, () -> tower.hang(2, 0));
        CHECK.due("hang: up to the limit of a motor", tower.hang(3, 1), 90);
        CHECK.due("hang: ofPiece(1, 3)", tower.ofPiece(1, 3), 0);
        int[] hand = {0, 100, 0, 0, 100, 30, 2, 100};
        int[] motor = {1, 90, 0, 0, 90, 5, 0, 0};
        for (int what = 0; what < 8; what++) {
            CHECK.due("hang: ofBar(0, " + what + ")", tower.ofBar(0, what), hand[what]);
            CHECK.due("hang: ofBar(1, " + what + ")", tower.ofBar(1, what), motor[what]);
        }
        FlyTower other = towerWithBars();
        other.piece(1, 0, 0);
        other.go(0);
        CHECK.dueThrow("hang: a cue runs", other, Check.STATE, () -> other.hang(0, 0));
        other.pass(1);
        CHECK.due("hang: no cue runs", other.many(5), -1);
        CHECK.dueThrow("hang: height above 0", other, Check.STATE, () -> other.hang(0, 0));
        other.cue(-1);
        other.move(1, 0, 1, 6, 0);
        other.cue(-1);
        other.move(2, 0, 0, 6, 0);
        other.go(1);
        other.pass(1);
        CHECK.dueThrow("hang: height 1", other, Check.STATE, () -> other.hang(0, 0));
        other.go(2);
        other.pass(1);
        CHECK.due("hang: height 0 again", other.hang(0, 0), 1);
    }

    private static void takes() {
        FlyTower tower = towerWithBars();
        tower.piece(60, 10, 2);
        tower.piece(5, 30, 1);
        CHECK.dueThrow("take: piece 2", tower, Check.INDEX, () -> tower.take(2));
        CHECK.dueThrow("take: piece -1", tower, Check.INDEX, () -> tower.take(-1));
        CHECK.dueThrow("take: in the store", tower, Check.STATE, () -> tower.take(0));
        tower.hang(0, 1);
        tower.hang(1, 1);
        CHECK.due("take(0)", tower.take(0), 1);
        CHECK.due("take: ofPiece(0, 3)", tower.ofPiece(0, 3), -1);
        CHECK.due("take: load", tower.ofBar(1, 4), 5);
        CHECK.due("take: deep", tower.ofBar(1, 5), 30);
        CHECK.due("take: wide", tower.ofBar(1, 6), 1);
        CHECK.due("take(1)", tower.take(1), 1);
        CHECK.due("take: load of none", tower.ofBar(1, 4), 0);
        CHECK.due("take: deep of none", tower.ofBar(1, 5), 0);
        CHECK.due("take: wide of none", tower.ofBar(1, 6), 0);
        CHECK.due("take: hung again", tower.hang(1, 1), 5);
        tower.cue(-1);
        tower.move(1, 1, 6, 6, 0);
        tower.go(1);
        CHECK.dueThrow("take: a cue runs", tower, Check.STATE, () -> tower.take(1));
        tower.pass(1);
        CHECK.due("take: no cue runs", tower.many(5), -1);
        CHECK.dueThrow("take: height above 0", tower, Check.STATE, () -> tower.take(1));
    }

    private static void counters() {
        FlyTower tower = towerWithBars();
        tower.piece(60, 10, 2);
        tower.hang(0, 0);
        CHECK.dueThrow("counter: bar 2", tower, Check.INDEX, () -> tower.counter(2, 301));
        CHECK.dueThrow("counter: bar -1", tower, Check.INDEX, () -> tower.counter(-1, 0));
        CHECK.dueThrow("counter: -1", tower, Check.ARGUMENT, () -> tower.counter(0, -1));
        CHECK.dueThrow("counter: 301", tower, Check.ARGUMENT, () -> tower.counter(0, 301));
        CHECK.dueThrow("counter: 301 of a motor", tower, Check.ARGUMENT, () -> tower.counter(1, 301));
        CHECK.dueThrow("counter: of a motor", tower, Check.STATE, () -> tower.counter(1, 0));
        CHECK.due("counter(0, 300)", tower.counter(0, 300), -240);
        CHECK.due("counter(0, 0)", tower.counter(0, 0), 60);
        CHECK.due("counter(0, 55)", tower.counter(0, 55), 5);
        CHECK.due("counter: ofBar(0, 3)", tower.ofBar(0, 3), 55);
        CHECK.due("counter: ofBar(0, 7)", tower.ofBar(0, 7), 5);
        tower.go(0);
        CHECK.dueThrow("counter: a cue runs", tower, Check.STATE, () -> tower.counter(0, 60));
        tower.pass(1);
        CHECK.due("counter: no cue runs", tower.many(5), -1);
        CHECK.dueThrow("counter: height above 0", tower, Check.STATE, () -> tower.counter(0, 60));
    }

    private static void goes() {
        FlyTower tower = towerWithBars();
        tower.cue(-1);
        CHECK.dueThrow("go(2)", tower, Check.INDEX, () -> tower.go(2));
        CHECK.dueThrow("go(-1)", tower, Check.INDEX, () -> tower.go(-1));
        CHECK.due("go(0)", tower.go(0), 2);
        CHECK.due("go: the cue that runs", tower.many(5), 0);
        CHECK.due("go: open", tower.many(8), 2);
        CHECK.due("go: elapsed", tower.many(7), 0);
        CHECK.due("go: ofMove(0, 0, 4)", tower.ofMove(0, 0, 4), 0);
        CHECK.dueThrow("go: one runs", tower, Check.STATE, () -> tower.go(1));
        CHECK.dueThrow("go: the same runs", tower, Check.STATE, () -> tower.go(0));
        CHECK.dueThrow("go: no such cue while one runs", tower, Check.INDEX, () -> tower.go(2));
        tower.pass(1);
        CHECK.due("go: without moves", tower.go(1), 0);
        tower.pass(1);
        CHECK.due("go: both over", tower.many(9), 2);
        CHECK.due("go: again", tower.go(0), 2);
        CHECK.due("go: open again", tower.ofMove(0, 1, 4), 0);
        CHECK.due("go: all are there already", tower.pass(1), 2);
    }

    private static void stops() {
        FlyTower tower = towerWithBars();
        CHECK.dueThrow("stop: none runs", tower, Check.STATE, () -> tower.stop(true));
        CHECK.dueThrow("stop: none runs, not", tower, Check.STATE, () -> tower.stop(false));
        tower.go(0);
        CHECK.due("stop(true)", tower.stop(true), false);
        CHECK.due("stop: stopped", tower.many(6), 1);
        CHECK.due("stop(true) again", tower.stop(true), true);
        CHECK.due("stop: nothing moves", tower.pass(5), 0);
        CHECK.due("stop: no height", tower.ofBar(0, 2), 0);
        CHECK.due("stop: nothing elapsed", tower.many(7), 0);
        CHECK.due("stop: now", tower.many(0), 5);
        CHECK.due("stop(false)", tower.stop(false), true);
        CHECK.due("stop: goes on", tower.pass(1), 2);
        CHECK.due("stop: stopped at the end", tower.many(6), 0);
        tower.go(0);
        tower.stop(true);
        tower.end();
        CHECK.due("stop: stopped without a cue", tower.many(6), 0);
        tower.go(0);
        CHECK.due("stop: a cue begins not stopped", tower.stop(false), false);
    }

    private static void ends() {
        FlyTower tower = new FlyTower();
        CHECK.dueThrow("end: none runs", tower, Check.STATE, () -> tower.end());
        tower.bar(true, 100);
        tower.bar(true, 100);
        tower.cue(1);
        tower.cue(-1);
        tower.move(0, 0, 6, 6, 0);
        tower.move(0, 1, 12, 6, 0);
        tower.go(0);
        tower.pass(1);
        CHECK.due("end()", tower.end(), 1);
        CHECK.due("end: none runs then", tower.many(5), -1);
        CHECK.due("end: elapsed", tower.many(7), 0);
        CHECK.due("end: open", tower.many(8), 0);
        CHECK.due("end: none over", tower.many(9), 0);
        CHECK.due("end: the done one", tower.ofMove(0, 0, 4), 1);
        CHECK.due("end: the one that was open", tower.ofMove(0, 1, 4), 0);
        CHECK.dueThrow("end: twice", tower, Check.STATE, () -> tower.end());
        tower.pass(3);
        CHECK.due("end: nothing moves then", tower.ofBar(1, 2), 6);
        CHECK.due("end: what follows does not begin", tower.many(5), -1);
    }

    private static void brakes() {
        FlyTower tower = towerWithBars();
        CHECK.dueThrow("brake: bar 2", tower, Check.INDEX, () -> tower.brake(2, true));
        CHECK.dueThrow("brake: bar -1", tower, Check.INDEX, () -> tower.brake(-1, true));
        CHECK.due("brake(1, true)", tower.brake(1, true), false);
        CHECK.due("brake: the set", tower.many(15), 2);
        CHECK.due("brake(1, true) again", tower.brake(1, true), true);
        CHECK.due("brake(0, true)", tower.brake(0, true), false);
        CHECK.due("brake: both", tower.many(15), 3);
        CHECK.due("brake(1, false)", tower.brake(1, false), true);
        CHECK.due("brake: ofBar(1, 10)", tower.ofBar(1, 10), 0);
        CHECK.due("brake: ofBar(0, 10)", tower.ofBar(0, 10), 1);
        CHECK.due("brake(1, false) again", tower.brake(1, false), false);
    }

    private static void passes() {
        FlyTower tower = towerWithBars();
        CHECK.dueThrow("pass(0)", tower, Check.ARGUMENT, () -> tower.pass(0));
        CHECK.dueThrow("pass(-1)", tower, Check.ARGUMENT, () -> tower.pass(-1));
        CHECK.dueThrow("pass(121)", tower, Check.ARGUMENT, () -> tower.pass(121));
        CHECK.dueThrow("pass: the most", tower, Check.ARGUMENT, () -> tower.pass(Integer.MAX_VALUE));
        tower.go(0);
        CHECK.due("pass(120)", tower.pass(120), 2);
        CHECK.due("pass: now", tower.many(0), 120);
        CHECK.due("pass: done ones of before do not count", tower.pass(1), 0);
    }

    private static void lastSecond() {
        FlyTower tower = new FlyTower();
        for (int i = 0; i < 24; i++) {
            tower.pass(120);
        }
        CHECK.due("pass: up to 2999", tower.pass(119), 0);
        CHECK.dueThrow("pass: 3001", tower, Check.STATE, () -> tower.pass(2));
        CHECK.dueThrow("pass: 121 at 2999", tower, Check.ARGUMENT, () -> tower.pass(121));
        CHECK.due("pass: up to 3000", tower.pass(1), 0);
        CHECK.due("pass: now is 3000", tower.many(0), 3000);
        CHECK.dueThrow("pass: beyond 3000", tower, Check.STATE, () -> tower.pass(1));
        tower.cue(-1);
        tower.bar(true, 100);
        tower.move(0, 0, 120, 1, 0);
        CHECK.due("secondsFor() beyond 3000", tower.secondsFor(0), 120);
        CHECK.due("wouldHurt() beyond 3000", tower.wouldHurt(60), 0);
    }
}
