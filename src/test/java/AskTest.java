/** Promises 16 to 21: what one asks. */
public final class AskTest {
    private static final Check CHECK = new Check();

    public static void main(String[] args) {
        unknown();
        ofBars();
        touches();
        touchesByHeights();
        manies();
        meanHeights();
        CHECK.end();
    }

    private static void unknown() {
        FlyTower tower = new FlyTower();
        tower.bar(true, 100);
        tower.piece(1, 1, 1);
        tower.cue(-1);
        tower.move(0, 0, 1, 1, 1);
        CHECK.dueThrow("ofBar(1, 12)", tower, Check.INDEX, () -> tower.ofBar(1, 12));
        CHECK.dueThrow("ofBar(-1, 0)", tower, Check.INDEX, () -> tower.ofBar(-1, 0));
        CHECK.dueThrow("ofBar(0, 12)", tower, Check.ARGUMENT, () -> tower.ofBar(0, 12));
        CHECK.dueThrow("ofBar(0, -1)", tower, Check.ARGUMENT, () -> tower.ofBar(0, -1));
        CHECK.dueThrow("ofPiece(1, 4)", tower, Check.INDEX, () -> tower.ofPiece(1, 4));
        CHECK.dueThrow("ofPiece(-1, 0)", tower, Check.INDEX, () -> tower.ofPiece(-1, 0));
        CHECK.dueThrow("ofPiece(0, 4)", tower, Check.ARGUMENT, () -> tower.ofPiece(0, 4));
        CHECK.dueThrow("ofPiece(0, -1)", tower, Check.ARGUMENT, () -> tower.ofPiece(0, -1));
        CHECK.dueThrow("ofMove(1, 0, 6)", tower, Check.INDEX, () -> tower.ofMove(1, 0, 6));
        CHECK.dueThrow("ofMove(-1, 0, 0)", tower, Check.INDEX, () -> tower.ofMove(-1, 0, 0));
        CHECK.dueThrow("ofMove(0, 1, 6)", tower, Check.INDEX, () -> tower.ofMove(0, 1, 6));
        CHECK.dueThrow("ofMove(0, -1, 0)", tower, Check.INDEX, () -> tower.ofMove(0, -1, 0));
        CHECK.dueThrow("ofMove(0, 0, 6)", tower, Check.ARGUMENT, () -> tower.ofMove(0, 0, 6));
        CHECK.dueThrow("ofMove(0, 0, -1)", tower, Check.ARGUMENT, () -> tower.ofMove(0, 0, -1));
        CHECK.dueThrow("touch(0, 1)", tower, Check.INDEX, () -> tower.touch(0, 1));
        CHECK.dueThrow("touch(1, 0)", tower, Check.INDEX, () -> tower.touch(1, 0));
        CHECK.dueThrow("touch(1, 1)", tower, Check.INDEX, () -> tower.touch(1, 1));
        CHECK.dueThrow("touch(-1, 0)", tower, Check.INDEX, () -> tower.touch(-1, 0));
        CHECK.dueThrow("many(16)", tower, Check.ARGUMENT, () -> tower.many(16));
        CHECK.dueThrow("many(-1)", tower, Check.ARGUMENT, () -> tower.many(-1));
    }

    private static void ofBars() {
        FlyTower tower = new FlyTower();
        tower.bar(false, 70);
        tower.piece(30, 12, 0);
        tower.piece(20, 9, 2);
        tower.hang(0, 0);
        tower.hang(1, 0);
        tower.counter(0, 58);
        tower.cue(-1);
        tower.move(0, 0, 10, 6, 0);
        tower.go(0);
        tower.pass(2);
        tower.below(0, true, false);
        tower.brake(0, true);
        tower.pass(3);
        int[] due = {0, 70, 13, 58, 50, 12, 2, -8, 1, 0, 1, 13};
        for (int what = 0; what < due.length; what++) {
            CHECK.due("ofBar(0, " + what + ")", tower.ofBar(0, what), due[what]);
        }
    }

    private static void touches() {
        int[] thicknesses = {0, 1, 2};
        for (int one : thicknesses) {
            for (int other : thicknesses) {
                for (int apart = 1; apart < 7; apart++) {
                    FlyTower tower = new FlyTower();
                    for (int b = 0; b < 8; b++) {
                        tower.bar(true, 100);
                    }
                    tower.piece(1, 0, one);
                    tower.piece(1, 0, other);
                    tower.hang(0, 1);
                    tower.hang(1, 1 + apart);
                    String what = "touch of " + one + " and " + other + ", " + apart + " apart";
                    CHECK.due(what, tower.touch(1, 1 + apart), apart <= one + other);
                    CHECK.due(what + ", the other way", tower.touch(1 + apart, 1), apart <= one + other);
                    CHECK.due(what + ", with itself", tower.touch(1, 1), false);
                }
            }
        }
    }

    private static void touchesByHeights() {
        FlyTower tower = new FlyTower();
        tower.bar(true, 100);
        tower.bar(true, 100);
        tower.piece(1, 4, 1);
        tower.piece(1, 2, 0);
        tower.hang(0, 0);
        tower.hang(1, 1);
        tower.cue(-1);
        tower.move(0, 0, 12, 1, 0);
        tower.go(0);
        for (int height = 1; height <= 12; height++) {
            tower.pass(1);
            CHECK.due("touch at " + height + " and 0", tower.touch(0, 1), height <= 4);
        }
        tower.cue(-1);
        tower.move(1, 1, 7, 1, 0);
        tower.go(1);
        tower.pass(7);
        CHECK.due("touch at 12 and 7", tower.touch(0, 1), false);
        tower.cue(-1);
        tower.move(2, 1, 8, 1, 0);
        tower.go(2);
        tower.pass(1);
        CHECK.due("touch: that would be near", tower.many(11), 1);
        CHECK.due("touch: it is not reached", tower.touch(1, 0), false);
    }

    private static void manies() {
        FlyTower tower = new FlyTower();
        tower.crew(1);
        tower.bar(false, 100);
        tower.bar(false, 100);
        tower.bar(false, 100);
        tower.piece(20, 0, 0);
        tower.hang(0, 2);
        tower.cue(1);
        tower.cue(-1);
        tower.move(1, 0, 60, 5, 0);
        tower.move(1, 1, 60, 5, 3);
        tower.move(1, 2, 60, 5, 0);
        tower.brake(2, true);
        tower.go(0);
        tower.pass(6);
        tower.stop(true);
        int[] due = {6, 3, 1, 2, 1, 1, 1, 5, 2, 1, 1, 0, 0, 0, 2, 4};
        for (int what = 0; what < due.length; what++) {
            CHECK.due("many(" + what + ")", tower.many(what), due[what]);
        }
    }

    private static void meanHeights() {
        FlyTower tower = new FlyTower();
        CHECK.due("meanHeight() without bars", tower.meanHeight(), 0.0);
        tower.bar(true, 100);
        CHECK.due("meanHeight() of 0", tower.meanHeight(), 0.0);
        tower.bar(true, 100);
        tower.bar(true, 100);
        tower.cue(-1);
        tower.move(0, 0, 5, 6, 0);
        tower.move(0, 2, 3, 6, 0);
        tower.go(0);
        tower.pass(1);
        CHECK.due("meanHeight() of 5, 0, 3", tower.meanHeight(), 8.0 / 3.0);
    }
}
