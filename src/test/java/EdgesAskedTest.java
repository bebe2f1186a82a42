/** The boundary cases that the document names for promises 16 to 21, sentence by sentence. */
public final class EdgesAskedTest {
    private static final Check CHECK = new Check();

    public static void main(String[] args) {
        ofNoBar();
        whatOfABar();
        barFirstNamed();
        barAnswersAtTheirEnds();
        heightsGoneEver();
        ofNoPiece();
        whatOfAPiece();
        pieceFirstNamed();
        pieceAnswersAtTheirEnds();
        ofNoMove();
        whatOfAMove();
        moveFirstNamed();
        moveNotBegun();
        moveSinceItsCueBeganLast();
        moveAsItsCueEnded();
        moveToldSince();
        touchOfNoBar();
        touchOfOneWithItself();
        touchByNumbers();
        touchByHeights();
        whatOfMany();
        manyWithoutACue();
        manyOfACueThatRuns();
        manyEver();
        setOfBrokenBrakes();
        meanWithoutBars();
        meanIsNotRounded();
        askingChangesNothing();
        CHECK.end();
    }

    private static void refused(String what, Refusal.State state, Class<?> want, Refusal.Call call) {
        Refusal.due(CHECK, what, state, want, call);
    }

    // ---- promise 16

    private static void ofNoBar() {
        CHECK.sentence("IndexOutOfBoundsException if there is no such BAR");
        int[] wrong = {-1, 3, 8, Integer.MIN_VALUE, Integer.MAX_VALUE};
        for (int bar : wrong) {
            refused("ofBar(" + bar + ", 0)", States::running, Check.INDEX, t -> t.ofBar(bar, 0));
        }
        refused("ofBar(8, 1) of 8", States::full, Check.INDEX, t -> t.ofBar(8, 1));
        refused("ofBar(0, 1) of none", States::fresh, Check.INDEX, t -> t.ofBar(0, 1));
        CHECK.due("ofBar(7, 1) of 8", States.full().ofBar(7, 1), 100);
    }

    private static void whatOfABar() {
        CHECK.sentence("IllegalArgumentException if what is not 0 to 11");
        int[] wrong = {-1, 12, Integer.MIN_VALUE, Integer.MAX_VALUE};
        for (int what : wrong) {
            refused("ofBar(0, " + what + ")", States::running, Check.ARGUMENT, t -> t.ofBar(0, what));
        }
    }

    private static void barFirstNamed() {
        CHECK.sentence("If several exceptions apply, the one that is named first is thrown.");
        refused("ofBar(3, 12)", States::resting, Check.INDEX, t -> t.ofBar(3, 12));
        refused("ofBar(-1, -1)", States::resting, Check.INDEX, t -> t.ofBar(-1, -1));
    }

    private static void barAnswersAtTheirEnds() {
        CHECK.sentence("COUNTER (0 with a MOTOR), DIFFERENCE; 0 with a MOTOR");
        FlyTower tower = States.bars(0, 1);
        tower.counter(0, 300);
        tower.piece(90, 60, 2);
        tower.piece(90, 60, 2);
        tower.hang(0, 0);
        tower.hang(1, 1);
        tower.brake(0, true);
        tower.brake(1, true);
        tower.below(0, true, true);
        tower.below(1, false, false);
        tower.pass(120);
        int[] hand = {0, 300, 120, 300, 90, 60, 2, -210, 1, 1, 1, 120};
        int[] motor = {1, 300, 0, 0, 90, 60, 2, 0, 0, 0, 1, 0};
        for (int what = 0; what < 12; what++) {
            CHECK.due("ofBar(0, " + what + ")", tower.ofBar(0, what), hand[what]);
            CHECK.due("ofBar(1, " + what + ")", tower.ofBar(1, what), motor[what]);
        }
    }

    private static void heightsGoneEver() {
        CHECK.sentence("heights that it went ever (up and down, by (1) and (2))");
        FlyTower tower = States.bars(0);
        tower.piece(10, 0, 0);
        tower.hang(0, 0);
        CHECK.due("at first", tower.ofBar(0, 11), 0);
        States.bring(tower, 0, 100);
        CHECK.due("up", tower.ofBar(0, 11), 100);
        States.bring(tower, 0, 20);
        CHECK.due("down", tower.ofBar(0, 11), 180);
        tower.brake(0, true);
        tower.pass(5);
        CHECK.due("away down", tower.ofBar(0, 11), 185);
        tower.pass(100);
        CHECK.due("away down to 0", tower.ofBar(0, 11), 200);
        tower.counter(0, 20);
        tower.pass(3);
        CHECK.due("away up", tower.ofBar(0, 11), 203);
    }

    // ---- promise 17

    private static void ofNoPiece() {
        CHECK.sentence("IndexOutOfBoundsException if there is no such PIECE");
        int[] wrong = {-1, 4, 10, Integer.MIN_VALUE, Integer.MAX_VALUE};
        for (int piece : wrong) {
            refused("ofPiece(" + piece + ", 0)", States::running, Check.INDEX, t -> t.ofPiece(piece, 0));
        }
        refused("ofPiece(10, 0) of 10", States::full, Check.INDEX, t -> t.ofPiece(10, 0));
        refused("ofPiece(0, 3) of none", States::fresh, Check.INDEX, t -> t.ofPiece(0, 3));
        CHECK.due("ofPiece(9, 0) of 10", States.full().ofPiece(9, 0), 10);
    }

    private static void whatOfAPiece() {
        CHECK.sentence("IllegalArgumentException if what is not 0 to 3");
        int[] wrong = {-1, 4, Integer.MIN_VALUE, Integer.MAX_VALUE};
        for (int what : wrong) {
            refused("ofPiece(0, " + what + ")", States::running, Check.ARGUMENT, t -> t.ofPiece(0, what));
        }
    }

    private static void pieceFirstNamed() {
        CHECK.sentence("If several exceptions apply, the one that is named first is thrown.");
        refused("ofPiece(4, 4)", States::resting, Check.INDEX, t -> t.ofPiece(4, 4));
        refused("ofPiece(-1, -1)", States::resting, Check.INDEX, t -> t.ofPiece(-1, -1));
    }

    private static void pieceAnswersAtTheirEnds() {
        CHECK.sentence("the BAR on which it hangs (NONE)");
        FlyTower tower = States.full();
        CHECK.due("in the STORE", tower.ofPiece(0, 3), -1);
        CHECK.due("on BAR 0", tower.ofPiece(9, 3), 0);
        CHECK.due("on BAR 5", tower.ofPiece(1, 3), 5);
        tower.hang(2, 7);
        CHECK.due("on BAR 7", tower.ofPiece(2, 3), 7);
        tower.take(2);
        CHECK.due("in the STORE again", tower.ofPiece(2, 3), -1);
    }

    // ---- promise 18

    private static void ofNoMove() {
        CHECK.sentence("IndexOutOfBoundsException if there is no such CUE, or MOVE");
        int[] noCue = {-1, 2, 6, Integer.MIN_VALUE, Integer.MAX_VALUE};
        for (int cue : noCue) {
            refused("ofMove(" + cue + ", 0, 0)", States::running, Check.INDEX, t -> t.ofMove(cue, 0, 0));
        }
        int[] noMove = {-1, 2, 6, Integer.MIN_VALUE, Integer.MAX_VALUE};
        for (int move : noMove) {
            refused("ofMove(0, " + move + ", 0)", States::running, Check.INDEX, t -> t.ofMove(0, move, 0));
        }
        refused("ofMove(1, 1, 0), as CUE 0 has 2", States::resting, Check.INDEX, t -> t.ofMove(1, 1, 0));
        refused("ofMove(0, 6, 0) of 6", States::full, Check.INDEX, t -> t.ofMove(0, 6, 0));
        refused("ofMove(6, 0, 0) of 6", States::full, Check.INDEX, t -> t.ofMove(6, 0, 0));
        refused("ofMove(0, 0, 0) of none", States::fresh, Check.INDEX, t -> t.ofMove(0, 0, 0));
        CHECK.due("ofMove(5, 5, 3) of 6 and 6", States.full().ofMove(5, 5, 3), 5);
    }

    private static void whatOfAMove() {
        CHECK.sentence("IllegalArgumentException if what is not 0 to 5");
        int[] wrong = {-1, 6, Integer.MIN_VALUE, Integer.MAX_VALUE};
        for (int what : wrong) {
            refused("ofMove(0, 0, " + what + ")", States::running, Check.ARGUMENT, t -> t.ofMove(0, 0, what));
        }
    }

    private static void moveFirstNamed() {
        CHECK.sentence("If several exceptions apply, the one that is named first is thrown.");
        refused("ofMove(2, 0, 6)", States::resting, Check.INDEX, t -> t.ofMove(2, 0, 6));
        refused("ofMove(0, 2, 6)", States::resting, Check.INDEX, t -> t.ofMove(0, 2, 6));
        refused("ofMove(-1, -1, -1)", States::resting, Check.INDEX, t -> t.ofMove(-1, -1, -1));
    }

    private static void moveNotBegun() {
        CHECK.sentence("NONE, if it did not since the MOVE was told; LATE 0 if NONE");
        FlyTower tower = States.running();
        CHECK.due("of a CUE that never began", tower.ofMove(1, 0, 4), -1);
        CHECK.due("LATE of it", tower.ofMove(1, 0, 5), 0);
        CHECK.due("of the one that RUNS", tower.ofMove(0, 1, 4), 0);
        tower.secondsFor(1);
        tower.stopsAt(1);
        CHECK.due("it began in no question", tower.ofMove(1, 0, 4), -1);
    }

    private static void moveSinceItsCueBeganLast() {
        CHECK.sentence("0 open, 1 DONE, 2 REFUSED, since that CUE began last; LATE since then");
        FlyTower tower = States.bars(1, 0, 1);
        tower.counter(1, 11);
        tower.below(2, true, false);
        tower.cue(-1);
        for (int b = 0; b < 3; b++) {
            tower.move(0, b, 3, 6, 0);
        }
        tower.go(0);
        tower.pass(4);
        int[] states = {1, 2, 0};
        int[] lates = {0, 0, 4};
        for (int m = 0; m < 3; m++) {
            CHECK.due("state of " + m, tower.ofMove(0, m, 4), states[m]);
            CHECK.due("LATE of " + m, tower.ofMove(0, m, 5), lates[m]);
        }
        tower.end();
        tower.go(0);
        for (int m = 0; m < 3; m++) {
            CHECK.due("state of " + m + " as it begins again", tower.ofMove(0, m, 4), 0);
            CHECK.due("LATE of " + m + " as it begins again", tower.ofMove(0, m, 5), 0);
        }
        CHECK.due("LATE ever", tower.many(14), 4);
    }

    private static void moveAsItsCueEnded() {
        CHECK.sentence("0 if it is (or was, as the CUE ended) open");
        FlyTower tower = States.bars(1, 0, 1);
        tower.crew(0);
        tower.cue(-1);
        tower.move(0, 0, 3, 6, 0);
        tower.move(0, 1, 3, 6, 0);
        tower.cue(-1);
        tower.move(1, 2, 3, 6, 0);
        tower.go(0);
        tower.pass(2);
        tower.end();
        CHECK.due("DONE, as it ended", tower.ofMove(0, 0, 4), 1);
        CHECK.due("open, as it ended", tower.ofMove(0, 1, 4), 0);
        CHECK.due("LATE, as it ended", tower.ofMove(0, 1, 5), 2);
        tower.go(1);
        tower.pass(3);
        CHECK.due("open, as another one is over", tower.ofMove(0, 1, 4), 0);
        CHECK.due("LATE, as another one is over", tower.ofMove(0, 1, 5), 2);
        CHECK.due("DONE, as its own is over", tower.ofMove(1, 0, 4), 1);
    }

    private static void moveToldSince() {
        CHECK.sentence("NONE, if it did not since the MOVE was told");
        FlyTower tower = States.bars(1, 1);
        tower.cue(-1);
        tower.move(0, 0, 3, 6, 0);
        tower.go(0);
        tower.pass(1);
        tower.move(0, 1, 3, 6, 0);
        CHECK.due("told since", tower.ofMove(0, 1, 4), -1);
        CHECK.due("told ahead of it", tower.ofMove(0, 0, 4), 1);
        tower.go(0);
        CHECK.due("as it begins", tower.ofMove(0, 1, 4), 0);
        tower.pass(1);
        CHECK.due("DONE", tower.ofMove(0, 1, 4), 1);
    }

    // ---- promise 19

    private static void touchOfNoBar() {
        CHECK.sentence("IndexOutOfBoundsException if there is no such BAR, of both");
        int[] wrong = {-1, 3, 8, Integer.MIN_VALUE, Integer.MAX_VALUE};
        for (int bar : wrong) {
            refused("touch(" + bar + ", 0)", States::running, Check.INDEX, t -> t.touch(bar, 0));
            refused("touch(0, " + bar + ")", States::running, Check.INDEX, t -> t.touch(0, bar));
            refused("touch(" + bar + ", itself)", States::running, Check.INDEX, t -> t.touch(bar, bar));
        }
        refused("touch(8, 7) of 8", States::full, Check.INDEX, t -> t.touch(8, 7));
        refused("touch(7, 8) of 8", States::full, Check.INDEX, t -> t.touch(7, 8));
        refused("touch(0, 0) of none", States::fresh, Check.INDEX, t -> t.touch(0, 0));
    }

    private static void touchOfOneWithItself() {
        CHECK.sentence("whether they TOUCH (false of one with itself)");
        FlyTower tower = States.bars(1, 1);
        tower.piece(1, 60, 2);
        tower.hang(0, 0);
        CHECK.due("touch(0, 0)", tower.touch(0, 0), false);
        CHECK.due("touch(1, 1)", tower.touch(1, 1), false);
        CHECK.due("touch(0, 1)", tower.touch(0, 1), true);
        CHECK.due("touch(1, 0)", tower.touch(1, 0), true);
    }

    private static void touchByNumbers() {
        CHECK.sentence("TOUCH, if their numbers differ by no more than WIDE of both together");
        for (int one = 0; one <= 2; one++) {
            for (int other = 0; other <= 2; other++) {
                for (int apart = 1; apart <= 7; apart++) {
                    FlyTower tower = States.bars(1, 1, 1, 1, 1, 1, 1, 1);
                    tower.piece(1, 0, one);
                    tower.piece(1, 0, other);
                    tower.hang(0, 0);
                    tower.hang(1, apart);
                    String what = "THICKNESS " + one + " and " + other + ", " + apart + " apart";
                    CHECK.due(what, tower.touch(0, apart), apart <= one + other);
                    CHECK.due(what + ", the other first", tower.touch(apart, 0), apart <= one + other);
                }
            }
        }
    }

    private static void touchByHeights() {
        CHECK.sentence("A BAR fills heights from HEIGHT less DEEP to HEIGHT; some height is filled by both");
        int[] drops = {0, 1, 60};
        for (int drop : drops) {
            FlyTower tower = States.bars(1, 1);
            tower.piece(1, drop, 1);
            tower.hang(0, 0);
            tower.cue(-1);
            tower.move(0, 0, 120, 1, 0);
            tower.go(0);
            for (int height = 1; height <= drop + 2; height++) {
                tower.pass(1);
                CHECK.due("touch(0, 1), DROP " + drop + " at " + height, tower.touch(0, 1), height <= drop);
                CHECK.due("touch(1, 0), DROP " + drop + " at " + height, tower.touch(1, 0), height <= drop);
            }
        }
        FlyTower below = States.bars(1, 1);
        below.piece(1, 60, 1);
        below.hang(0, 0);
        CHECK.due("bring 1 to 60", States.bring(below, 1, 60), 0);
        CHECK.due("BAR 1 above, without a DROP", below.touch(0, 1), false);
    }

    // ---- promise 20

    private static void whatOfMany() {
        CHECK.sentence("IllegalArgumentException if what is not 0 to 15");
        int[] wrong = {-1, 16, Integer.MIN_VALUE, Integer.MAX_VALUE};
        for (int what : wrong) {
            refused("many(" + what + ")", States::running, Check.ARGUMENT, t -> t.many(what));
            refused("many(" + what + ") of a new one", States::fresh, Check.ARGUMENT, t -> t.many(what));
        }
    }

    private static void manyWithoutACue() {
        CHECK.sentence("the CUE that RUNS (NONE), STOPPED 0, ELAPSED 0 without one, open MOVES 0 without one");
        int[] due = {-1, 0, 0, 0};
        FlyTower atRest = States.resting();
        FlyTower ended = States.stopped();
        ended.end();
        FlyTower over = States.bars(1);
        States.bring(over, 0, 3);
        for (int what = 5; what <= 8; what++) {
            CHECK.due("at rest, many(" + what + ")", atRest.many(what), due[what - 5]);
            CHECK.due("behind end(), many(" + what + ")", ended.many(what), due[what - 5]);
            CHECK.due("as it is over, many(" + what + ")", over.many(what), due[what - 5]);
        }
    }

    private static void manyOfACueThatRuns() {
        CHECK.sentence("the CUE that RUNS, 1 if it is STOPPED, ELAPSED of it, MOVES that are open in it");
        FlyTower tower = States.full();
        tower.crew(5);
        tower.go(5);
        tower.pass(5);
        int[] due = {5, 0, 5, 6};
        for (int what = 5; what <= 8; what++) {
            CHECK.due("many(" + what + ")", tower.many(what), due[what - 5]);
        }
        tower.stop(true);
        CHECK.due("many(6) STOPPED", tower.many(6), 1);
        tower.end();
        tower.go(0);
        CHECK.due("many(5) of CUE 0", tower.many(5), 0);
        CHECK.due("many(7) as it begins", tower.many(7), 0);
    }

    private static void manyEver() {
        CHECK.sentence("how often CUES were over ever (by (3)), REFUSED ever, NEAR ever, CRASHES ever, HURT ever, LATE ever");
        FlyTower tower = States.bars(0, 0, 1, 1, 0);
        tower.counter(0, 300);
        tower.brake(0, true);
        tower.piece(1, 0, 0);
        tower.hang(0, 1);
        tower.below(1, true, true);
        tower.piece(1, 0, 1);
        tower.hang(1, 3);
        tower.crew(1);
        tower.cue(1);
        tower.move(0, 0, 60, 1, 0);
        tower.move(0, 1, 6, 6, 0);
        tower.move(0, 3, 6, 6, 0);
        tower.move(0, 4, 0, 1, 0);
        tower.cue(-1);
        tower.move(1, 2, 6, 6, 14);
        tower.go(0);
        tower.pass(2);
        tower.brake(1, true);
        tower.pass(15);
        int[] due = {17, 5, 2, 2, 1, 1, 1, 15, 1, 1, 1, 1, 1, 6, 1, 3};
        for (int what = 0; what < due.length; what++) {
            CHECK.due("many(" + what + ")", tower.many(what), due[what]);
        }
        tower.end();
        for (int what = 9; what <= 14; what++) {
            CHECK.due("many(" + what + ") behind end()", tower.many(what), due[what]);
        }
    }

    private static void setOfBrokenBrakes() {
        CHECK.sentence("the set of BARS with a BROKEN BRAKE");
        FlyTower tower = States.full();
        CHECK.due("of none", tower.many(15), 0);
        int set = 0;
        for (int b = 0; b < 8; b++) {
            tower.brake(b, true);
            set += 1 << b;
            CHECK.due("up to " + b, tower.many(15), set);
        }
        CHECK.due("of all", set, 255);
        tower.brake(0, false);
        CHECK.due("without 0", tower.many(15), 254);
    }

    // ---- promise 21

    private static void meanWithoutBars() {
        CHECK.sentence("the mean HEIGHT of all BARS; 0 without any");
        CHECK.due("of none", new FlyTower().meanHeight(), 0.0);
        CHECK.due("of one at 0", States.bars(1).meanHeight(), 0.0);
    }

    private static void meanIsNotRounded() {
        CHECK.sentence("the mean HEIGHT of all BARS, not rounded");
        FlyTower tower = States.bars(1);
        States.bring(tower, 0, 1);
        double[] due = {1.0, 1.0 / 2, 1.0 / 3, 1.0 / 4, 1.0 / 5, 1.0 / 6, 1.0 / 7, 1.0 / 8};
        for (int b = 0; b < 8; b++) {
            CHECK.due("of " + (b + 1), tower.meanHeight(), due[b]);
            if (b < 7) {
                tower.bar(false, 10);
            }
        }
        FlyTower most = States.bars(0, 0, 0, 0, 0, 0, 0, 0);
        for (int b = 0; b < 8; b++) {
            most.counter(b, 80);
            most.brake(b, true);
        }
        most.pass(15);
        CHECK.due("of 8 at 120", most.meanHeight(), 120.0);
    }

    private static void askingChangesNothing() {
        CHECK.sentence("---- what one asks.");
        Refusal.unchanged(CHECK, "what one asks", States::running, EdgesAskedTest::askAll);
        Refusal.unchanged(CHECK, "what one asks", States::stopped, EdgesAskedTest::askAll);
    }

    private static Object askAll(FlyTower tower) {
        for (int what = 0; what < 12; what++) {
            tower.ofBar(2, what);
        }
        for (int what = 0; what < 4; what++) {
            tower.ofPiece(0, what);
        }
        for (int what = 0; what < 6; what++) {
            tower.ofMove(0, 1, what);
        }
        for (int what = 0; what < 16; what++) {
            tower.many(what);
        }
        tower.touch(0, 1);
        return tower.meanHeight();
    }
}
