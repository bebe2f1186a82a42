/** Promises 1 to 7: what is told. */
public final class TellTest {
    private static final Check CHECK = new Check();

    public static void main(String[] args) {
        newObject();
        bars();
        pieces();
        cues();
        moves();
        movesOfFullAndRunningCues();
        crews();
        belowBars();
        CHECK.end();
    }

    private static void newObject() {
        FlyTower tower = new FlyTower();
        int[] due = {0, 0, 0, 0, 2, -1, 0, 0, 0, 0, 0, 0, 0, 0, 0, 0};
        for (int what = 0; what < due.length; what++) {
            CHECK.due("new: many(" + what + ")", tower.many(what), due[what]);
        }
        CHECK.due("new: meanHeight()", tower.meanHeight(), 0.0);
        CHECK.dueThrow("new: ofBar(0, 0)", tower, Check.INDEX, () -> tower.ofBar(0, 0));
        CHECK.dueThrow("new: ofPiece(0, 0)", tower, Check.INDEX, () -> tower.ofPiece(0, 0));
        CHECK.dueThrow("new: go(0)", tower, Check.INDEX, () -> tower.go(0));
    }

    private static void bars() {
        FlyTower tower = new FlyTower();
        CHECK.dueThrow("bar: limit 9", tower, Check.ARGUMENT, () -> tower.bar(true, 9));
        CHECK.dueThrow("bar: limit 301", tower, Check.ARGUMENT, () -> tower.bar(false, 301));
        CHECK.dueThrow("bar: least limit", tower, Check.ARGUMENT, () -> tower.bar(false, Integer.MIN_VALUE));
        CHECK.due("bar(false, 10)", tower.bar(false, 10), 0);
        CHECK.due("bar(true, 300)", tower.bar(true, 300), 1);
        int[] hand = {0, 10, 0, 0, 0, 0, 0, 0, 0, 1, 0, 0};
        int[] motor = {1, 300, 0, 0, 0, 0, 0, 0, 0, 1, 0, 0};
        for (int what = 0; what < 12; what++) {
            CHECK.due("bar: ofBar(0, " + what + ")", tower.ofBar(0, what), hand[what]);
            CHECK.due("bar: ofBar(1, " + what + ")", tower.ofBar(1, what), motor[what]);
        }
        for (int b = 2; b < 8; b++) {
            CHECK.due("bar " + b, tower.bar(b % 2 == 0, 100), b);
        }
        CHECK.dueThrow("bar: a ninth", tower, Check.STATE, () -> tower.bar(true, 100));
        CHECK.dueThrow("bar: a ninth with limit 9", tower, Check.ARGUMENT, () -> tower.bar(true, 9));
        CHECK.due("bars", tower.many(1), 8);
    }

    private static void pieces() {
        FlyTower tower = new FlyTower();
        CHECK.dueThrow("piece: weight 0", tower, Check.ARGUMENT, () -> tower.piece(0, 0, 0));
        CHECK.dueThrow("piece: weight 91", tower, Check.ARGUMENT, () -> tower.piece(91, 0, 0));
        CHECK.dueThrow("piece: drop -1", tower, Check.ARGUMENT, () -> tower.piece(1, -1, 0));
        CHECK.dueThrow("piece: drop 61", tower, Check.ARGUMENT, () -> tower.piece(1, 61, 0));
        CHECK.dueThrow("piece: thickness -1", tower, Check.ARGUMENT, () -> tower.piece(1, 0, -1));
        CHECK.dueThrow("piece: thickness 3", tower, Check.ARGUMENT, () -> tower.piece(1, 0, 3));
        CHECK.due("piece(1, 0, 0)", tower.piece(1, 0, 0), 0);
        CHECK.due("piece(90, 60, 2)", tower.piece(90, 60, 2), 1);
        int[] first = {1, 0, 0, -1};
        int[] second = {90, 60, 2, -1};
        for (int what = 0; what < 4; what++) {
            CHECK.due("piece: ofPiece(0, " + what + ")", tower.ofPiece(0, what), first[what]);
            CHECK.due("piece: ofPiece(1, " + what + ")", tower.ofPiece(1, what), second[what]);
        }
        for (int p = 2; p < 10; p++) {
            CHECK.due("piece " + p, tower.piece(5, 5, 1), p);
        }
        CHECK.dueThrow("piece: an eleventh", tower, Check.STATE, () -> tower.piece(5, 5, 1));
        CHECK.dueThrow("piece: an eleventh of weight 0", tower, Check.ARGUMENT, () -> tower.piece(0, 5, 1));
        CHECK.due("pieces", tower.many(2), 10);
    }

    private static void cues() {
        FlyTower tower = new FlyTower();
        CHECK.dueThrow("cue(-2)", tower, Check.ARGUMENT, () -> tower.cue(-2));
        CHECK.dueThrow("cue(6)", tower, Check.ARGUMENT, () -> tower.cue(6));
        CHECK.due("cue(5)", tower.cue(5), 0);
        for (int c = 1; c < 6; c++) {
            CHECK.due("cue " + c, tower.cue(-1), c);
        }
        CHECK.dueThrow("cue: a seventh", tower, Check.STATE, () -> tower.cue(0));
        CHECK.dueThrow("cue: a seventh that follows 6", tower, Check.ARGUMENT, () -> tower.cue(6));
        CHECK.due("cues", tower.many(3), 6);
        CHECK.dueThrow("cue: a first move", tower, Check.INDEX, () -> tower.ofMove(0, 0, 0));
        tower.go(0);
        tower.pass(1);
        CHECK.due("cue: the one told later follows", tower.many(5), 5);
    }

    private static void moves() {
        FlyTower tower = new FlyTower();
        CHECK.dueThrow("move: no cue", tower, Check.INDEX, () -> tower.move(0, 0, 0, 1, 0));
        tower.cue(-1);
        CHECK.dueThrow("move: no bar", tower, Check.INDEX, () -> tower.move(0, 0, 0, 1, 0));
        tower.bar(true, 100);
        tower.bar(false, 100);
        CHECK.dueThrow("move: cue -1", tower, Check.INDEX, () -> tower.move(-1, 0, 0, 1, 0));
        CHECK.dueThrow("move: cue 1, target 121", tower, Check.INDEX, () -> tower.move(1, 0, 121, 1, 0));
        CHECK.dueThrow("move: bar 2, speed 0", tower, Check.INDEX, () -> tower.move(0, 2, 0, 0, 0));
        CHECK.dueThrow("move: bar -1", tower, Check.INDEX, () -> tower.move(0, -1, 0, 1, 0));
        CHECK.dueThrow("move: target -1", tower, Check.ARGUMENT, () -> tower.move(0, 0, -1, 1, 0));
        CHECK.dueThrow("move: target 121", tower, Check.ARGUMENT, () -> tower.move(0, 0, 121, 1, 0));
        CHECK.dueThrow("move: speed 0", tower, Check.ARGUMENT, () -> tower.move(0, 0, 0, 0, 0));
        CHECK.dueThrow("move: speed 7", tower, Check.ARGUMENT, () -> tower.move(0, 0, 0, 7, 0));
        CHECK.dueThrow("move: delay -1", tower, Check.ARGUMENT, () -> tower.move(0, 0, 0, 1, -1));
        CHECK.dueThrow("move: delay 21", tower, Check.ARGUMENT, () -> tower.move(0, 0, 0, 1, 21));
        CHECK.due("move(0, 1, 120, 6, 20)", tower.move(0, 1, 120, 6, 20), 0);
        CHECK.due("move(0, 0, 0, 1, 0)", tower.move(0, 0, 0, 1, 0), 1);
        int[] first = {1, 120, 6, 20, -1, 0};
        int[] second = {0, 0, 1, 0, -1, 0};
        for (int what = 0; what < 6; what++) {
            CHECK.due("move: ofMove(0, 0, " + what + ")", tower.ofMove(0, 0, what), first[what]);
            CHECK.due("move: ofMove(0, 1, " + what + ")", tower.ofMove(0, 1, what), second[what]);
        }
        CHECK.dueThrow("move: that bar again", tower, Check.STATE, () -> tower.move(0, 0, 5, 1, 0));
        CHECK.dueThrow("move: the bar of the first again", tower, Check.STATE, () -> tower.move(0, 1, 5, 1, 0));
        CHECK.dueThrow("move: that bar again, delay 21", tower, Check.ARGUMENT, () -> tower.move(0, 0, 5, 1, 21));
        tower.cue(-1);
        CHECK.due("move: that bar in another cue", tower.move(1, 0, 5, 1, 0), 0);
    }

    private static void movesOfFullAndRunningCues() {
        FlyTower tower = new FlyTower();
        for (int b = 0; b < 8; b++) {
            tower.bar(true, 100);
        }
        tower.cue(-1);
        tower.cue(-1);
        for (int b = 0; b < 6; b++) {
            CHECK.due("move " + b, tower.move(0, b, 10, 1, 0), b);
        }
        CHECK.dueThrow("move: a seventh", tower, Check.STATE, () -> tower.move(0, 6, 10, 1, 0));
        tower.go(1);
        CHECK.dueThrow("move: that cue runs", tower, Check.STATE, () -> tower.move(1, 0, 10, 1, 0));
        tower.end();
        tower.go(0);
        CHECK.due("move: another cue runs", tower.move(1, 0, 10, 1, 0), 0);
    }

    private static void crews() {
        FlyTower tower = new FlyTower();
        CHECK.dueThrow("crew(-1)", tower, Check.ARGUMENT, () -> tower.crew(-1));
        CHECK.dueThrow("crew(6)", tower, Check.ARGUMENT, () -> tower.crew(6));
        CHECK.due("crew(5)", tower.crew(5), 2);
        CHECK.due("crew(0)", tower.crew(0), 5);
        CHECK.due("the crew", tower.many(4), 0);
        tower.cue(-1);
        tower.go(0);
        CHECK.due("crew(3) while a cue runs", tower.crew(3), 0);
    }

    private static void belowBars() {
        FlyTower tower = new FlyTower();
        CHECK.dueThrow("below: no bar", tower, Check.INDEX, () -> tower.below(0, true, false));
        tower.bar(true, 100);
        tower.bar(true, 100);
        CHECK.dueThrow("below: bar -1", tower, Check.INDEX, () -> tower.below(-1, true, false));
        CHECK.due("below(1, true, false)", tower.below(1, true, false), false);
        CHECK.due("people below 1", tower.ofBar(1, 8), 1);
        CHECK.due("watched 1", tower.ofBar(1, 9), 0);
        CHECK.due("people below 0", tower.ofBar(0, 8), 0);
        CHECK.due("watched 0", tower.ofBar(0, 9), 1);
        CHECK.due("below(1, false, true)", tower.below(1, false, true), true);
        CHECK.due("below(1, false, false)", tower.below(1, false, false), false);
        CHECK.due("people below 1 then", tower.ofBar(1, 8), 0);
        CHECK.due("watched 1 then", tower.ofBar(1, 9), 0);
    }
}
