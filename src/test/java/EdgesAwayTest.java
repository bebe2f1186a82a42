/** The boundary cases that the document names for (2) and (3) of a second: what runs away, and what is over. */
public final class EdgesAwayTest {
    private static final Check CHECK = new Check();

    public static void main(String[] args) {
        wholeBrakeHolds();
        aTenthUpRoundedUp();
        aTenthDownRoundedUp();
        noDifferenceNoWay();
        motorStays();
        notIfItsHeightChanged();
        ifItsHeightDidNotChange();
        stopsAheadOfATouch();
        goesOnWhereItTouchesAlready();
        barByBar();
        notBelowZero();
        notAboveTheTop();
        crashFromFourHeights();
        crashByTheRestOfAWay();
        noCrashByAMove();
        noCrashAtRest();
        hurtAtTwentyOrLess();
        hurtOnlyByComingDown();
        hurtOnlyByPartTwo();
        hurtWherePeopleAre();
        hurtOnceForEachBar();
        overWithoutMoves();
        overThoughStopped();
        notOverWhileOneIsOpen();
        overAsAllAreRefused();
        nothingFollows();
        theOneThatFollowsBegins();
        followsRoundAndRound();
        runsAwayAheadOfTheEnd();
        CHECK.end();
    }

    private static int height(FlyTower tower, int bar) {
        return tower.ofBar(bar, 2);
    }

    /** BAR 0 by HAND, with a BROKEN BRAKE, without PIECES: it rises. */
    private static FlyTower rising(int counter) {
        FlyTower tower = States.bars(0);
        tower.counter(0, counter);
        tower.brake(0, true);
        return tower;
    }

    /** BAR 0 by HAND at a HEIGHT, with a BROKEN BRAKE, its LOAD above its COUNTER by the DIFFERENCE. */
    private static FlyTower sinking(int difference, int height) {
        FlyTower tower = States.bars(0);
        tower.piece(difference, 0, 0);
        tower.hang(0, 0);
        States.bring(tower, 0, height);
        tower.brake(0, true);
        return tower;
    }

    private static void wholeBrakeHolds() {
        CHECK.sentence("BAR by BAR with a BROKEN BRAKE");
        FlyTower tower = rising(300);
        tower.brake(0, false);
        tower.pass(120);
        CHECK.due("HEIGHT", height(tower, 0), 0);
        tower.brake(0, true);
        tower.pass(1);
        CHECK.due("HEIGHT with a BROKEN one", height(tower, 0), 8);
        tower.brake(0, false);
        tower.pass(1);
        CHECK.due("HEIGHT with a mended one", height(tower, 0), 8);
    }

    private static void aTenthUpRoundedUp() {
        CHECK.sentence("by a tenth of DIFFERENCE, without its sign, rounded up, 8 at most: up below 0");
        for (int counter = 0; counter <= 300; counter++) {
            FlyTower tower = rising(counter);
            tower.pass(1);
            int tenth = counter / 10 + (counter % 10 == 0 ? 0 : 1);
            CHECK.due("HEIGHT by -" + counter, height(tower, 0), tenth < 8 ? tenth : 8);
            CHECK.due("heights gone by -" + counter, tower.ofBar(0, 11), tenth < 8 ? tenth : 8);
        }
    }

    private static void aTenthDownRoundedUp() {
        CHECK.sentence("by a tenth of DIFFERENCE, without its sign, rounded up: down with a DIFFERENCE above 0");
        for (int difference = 1; difference <= 10; difference++) {
            FlyTower tower = sinking(difference, 60);
            tower.pass(1);
            CHECK.due("HEIGHT by " + difference, height(tower, 0), 59);
            CHECK.due("heights gone by " + difference, tower.ofBar(0, 11), 61);
        }
    }

    private static void noDifferenceNoWay() {
        CHECK.sentence("down with a DIFFERENCE above 0, up below 0");
        FlyTower tower = States.bars(0);
        tower.piece(50, 0, 0);
        tower.hang(0, 0);
        tower.counter(0, 50);
        States.bring(tower, 0, 60);
        tower.brake(0, true);
        tower.pass(10);
        CHECK.due("HEIGHT by 0", height(tower, 0), 60);
    }

    private static void motorStays() {
        CHECK.sentence("DIFFERENCE: 0 with a MOTOR");
        FlyTower tower = States.bars(1);
        tower.piece(90, 0, 0);
        tower.hang(0, 0);
        States.bring(tower, 0, 60);
        tower.brake(0, true);
        tower.pass(10);
        CHECK.due("HEIGHT", height(tower, 0), 60);
    }

    private static void notIfItsHeightChanged() {
        CHECK.sentence("whose HEIGHT did not change in (1)");
        FlyTower tower = rising(10);
        tower.cue(-1);
        tower.move(0, 0, 120, 1, 0);
        tower.cue(-1);
        tower.move(1, 0, 0, 1, 0);
        tower.go(0);
        tower.pass(30);
        CHECK.due("moved up by 1, not run by 1", height(tower, 0), 30);
        tower.end();
        tower.go(1);
        tower.pass(30);
        CHECK.due("moved down by 1, not run by 1", height(tower, 0), 0);
        tower.pass(1);
        CHECK.due("moved no more", height(tower, 0), 1);
    }

    private static void ifItsHeightDidNotChange() {
        CHECK.sentence("whose HEIGHT did not change in (1): it RUNS AWAY");
        FlyTower waiting = rising(10);
        waiting.cue(-1);
        waiting.move(0, 0, 120, 6, 2);
        waiting.go(0);
        waiting.pass(2);
        CHECK.due("its MOVE waits", height(waiting, 0), 2);
        waiting.pass(1);
        CHECK.due("its MOVE waits no more", height(waiting, 0), 8);
        waiting.crew(0);
        waiting.pass(1);
        CHECK.due("its MOVE is LATE", height(waiting, 0), 9);
        waiting.stop(true);
        waiting.pass(1);
        CHECK.due("its CUE is STOPPED", height(waiting, 0), 10);
        waiting.end();
        waiting.pass(1);
        CHECK.due("no CUE RUNS", height(waiting, 0), 11);

        FlyTower refused = rising(11);
        refused.cue(-1);
        refused.move(0, 0, 120, 6, 0);
        refused.go(0);
        refused.pass(1);
        CHECK.due("its MOVE is REFUSED", height(refused, 0), 2);

        FlyTower there = rising(10);
        there.cue(-1);
        there.move(0, 0, 0, 6, 0);
        there.go(0);
        CHECK.due("its MOVE is DONE at once", there.pass(1), 1);
        CHECK.due("by a way of 0", height(there, 0), 1);
    }

    /** BAR 0 with a MOTOR at a HEIGHT, with a PIECE of THICKNESS 1; BAR 1 by HAND at 0, to rise as its BRAKE breaks. */
    private static FlyTower risingBelow(int obstacle, int counter) {
        FlyTower tower = States.bars(1, 0);
        tower.piece(1, 0, 1);
        tower.hang(0, 0);
        tower.counter(1, counter);
        States.bring(tower, 0, obstacle);
        tower.brake(1, true);
        return tower;
    }

    private static void stopsAheadOfATouch() {
        CHECK.sentence("it stops, if it would TOUCH a BAR by the next one that it does not TOUCH by then");
        for (int obstacle = 1; obstacle <= 10; obstacle++) {
            FlyTower tower = risingBelow(obstacle, 80);
            tower.pass(1);
            CHECK.due("HEIGHT below " + obstacle, height(tower, 1), obstacle <= 8 ? obstacle - 1 : 8);
            CHECK.due("heights gone below " + obstacle, tower.ofBar(1, 11), obstacle <= 8 ? obstacle - 1 : 8);
            tower.pass(1);
            CHECK.due("HEIGHT below " + obstacle + " later", height(tower, 1), obstacle - 1);
            CHECK.due("near ones", tower.many(11), 0);
            CHECK.due("CRASHES", tower.many(12), 0);
        }
    }

    private static void goesOnWhereItTouchesAlready() {
        CHECK.sentence("that it does not TOUCH by then");
        FlyTower tower = States.bars(1, 0);
        tower.piece(1, 4, 1);
        tower.hang(0, 0);
        tower.counter(1, 80);
        States.bring(tower, 0, 4);
        tower.brake(1, true);
        CHECK.due("it TOUCHES", tower.touch(1, 0), true);
        tower.pass(1);
        CHECK.due("through all that it TOUCHES, and out of it", height(tower, 1), 8);
        CHECK.due("it TOUCHES no more", tower.touch(1, 0), false);
    }

    private static void barByBar() {
        CHECK.sentence("BAR by BAR");
        FlyTower tower = States.bars(0, 0);
        tower.piece(10, 0, 1);
        tower.hang(0, 0);
        tower.counter(0, 30);
        tower.counter(1, 80);
        tower.brake(0, true);
        tower.brake(1, true);
        tower.pass(1);
        CHECK.due("HEIGHT of 0", height(tower, 0), 2);
        CHECK.due("HEIGHT of 1 behind it", height(tower, 1), 1);
        FlyTower other = States.bars(0, 0);
        other.piece(10, 0, 1);
        other.hang(0, 0);
        other.counter(0, 90);
        other.counter(1, 20);
        other.brake(0, true);
        other.brake(1, true);
        other.pass(1);
        CHECK.due("HEIGHT of 0, the faster one", height(other, 0), 8);
        CHECK.due("HEIGHT of 1, the slower one", height(other, 1), 2);
    }

    private static void notBelowZero() {
        CHECK.sentence("it stops, if it would go below 0");
        FlyTower tower = sinking(10, 2);
        int[] due = {1, 0, 0, 0};
        for (int second = 0; second < due.length; second++) {
            tower.pass(1);
            CHECK.due("HEIGHT in second " + second, height(tower, 0), due[second]);
        }
        CHECK.due("heights gone", tower.ofBar(0, 11), 4);
        FlyTower heavy = States.bars(0);
        heavy.piece(90, 0, 0);
        heavy.hang(0, 0);
        heavy.brake(0, true);
        heavy.pass(1);
        CHECK.due("HEIGHT of a heavy one", height(heavy, 0), 0);
        CHECK.due("heights gone of a heavy one", heavy.ofBar(0, 11), 0);
    }

    private static void notAboveTheTop() {
        CHECK.sentence("it stops, if it would go above 120");
        FlyTower tower = rising(70);
        tower.pass(17);
        CHECK.due("HEIGHT by 7", height(tower, 0), 119);
        tower.pass(1);
        CHECK.due("HEIGHT at the top", height(tower, 0), 120);
        tower.pass(1);
        CHECK.due("HEIGHT stays", height(tower, 0), 120);
        CHECK.due("heights gone", tower.ofBar(0, 11), 120);
    }

    private static void crashFromFourHeights() {
        CHECK.sentence("if it is at 0 or 120 behind that, having gone 4 heights or more: it is a CRASH");
        int[] counters = {10, 20, 30, 40, 50, 60, 80, 300};
        int[] seconds = {120, 60, 40, 30, 24, 20, 15, 15};
        for (int i = 0; i < counters.length; i++) {
            FlyTower tower = rising(counters[i]);
            for (int s = 0; s < seconds[i] - 1; s++) {
                tower.pass(1);
            }
            CHECK.due("CRASHES ahead of it by " + counters[i], tower.many(12), 0);
            tower.pass(1);
            CHECK.due("HEIGHT by " + counters[i], height(tower, 0), 120);
            CHECK.due("CRASHES by " + counters[i], tower.many(12), counters[i] >= 40 ? 1 : 0);
        }
    }

    private static void crashByTheRestOfAWay() {
        CHECK.sentence("having gone 4 heights or more in this second by that");
        for (int obstacle = 4; obstacle <= 6; obstacle++) {
            FlyTower tower = risingBelow(obstacle, 80);
            tower.pass(1);
            tower.brake(1, false);
            States.bring(tower, 0, 0);
            CHECK.due("HEIGHT ahead of it", height(tower, 1), obstacle - 1);
            tower.brake(1, true);
            tower.pass(14);
            CHECK.due("CRASHES ahead of it", tower.many(12), 0);
            tower.pass(1);
            CHECK.due("HEIGHT from " + (obstacle + 111), height(tower, 1), 120);
            CHECK.due("CRASHES from " + (obstacle + 111), tower.many(12), obstacle <= 5 ? 1 : 0);
        }
    }

    private static void noCrashByAMove() {
        CHECK.sentence("having gone 4 heights or more in this second by that");
        FlyTower tower = rising(10);
        tower.cue(-1);
        tower.move(0, 0, 120, 6, 0);
        tower.cue(-1);
        tower.move(1, 0, 0, 6, 0);
        tower.go(0);
        tower.pass(20);
        CHECK.due("HEIGHT moved up", height(tower, 0), 120);
        CHECK.due("CRASHES", tower.many(12), 0);
        tower.go(1);
        tower.pass(20);
        CHECK.due("HEIGHT moved down", height(tower, 0), 0);
        CHECK.due("CRASHES", tower.many(12), 0);
    }

    private static void noCrashAtRest() {
        CHECK.sentence("if it is at 0 or 120 behind that, having gone 4 heights or more");
        FlyTower tower = rising(80);
        tower.pass(14);
        CHECK.due("8 heights, but not to 120", tower.many(12), 0);
        tower.pass(20);
        CHECK.due("once, not again at rest", tower.many(12), 1);
        FlyTower heavy = States.bars(0);
        heavy.piece(90, 0, 0);
        heavy.hang(0, 0);
        heavy.brake(0, true);
        heavy.pass(5);
        CHECK.due("none at 0 without a way", heavy.many(12), 0);
    }

    private static void hurtAtTwentyOrLess() {
        CHECK.sentence("its HEIGHT is 20 or less then, with PEOPLE below it: somebody is HURT");
        int[] from = {120, 23, 22, 21, 20, 2, 1};
        int[] due = {0, 0, 0, 1, 1, 1, 1};
        for (int i = 0; i < from.length; i++) {
            FlyTower tower = sinking(10, from[i]);
            tower.below(0, true, true);
            tower.pass(1);
            CHECK.due("HEIGHT", height(tower, 0), from[i] - 1);
            CHECK.due("HURT at " + (from[i] - 1), tower.many(13), due[i]);
        }
    }

    private static void hurtOnlyByComingDown() {
        CHECK.sentence("If it came down by (2)");
        FlyTower up = rising(10);
        up.below(0, true, false);
        up.pass(20);
        CHECK.due("HEIGHT", height(up, 0), 20);
        CHECK.due("HURT on the way up", up.many(13), 0);
        FlyTower rest = sinking(10, 1);
        rest.below(0, true, true);
        rest.pass(1);
        CHECK.due("HURT as it came to 0", rest.many(13), 1);
        rest.pass(10);
        CHECK.due("HURT at rest at 0", rest.many(13), 1);
        FlyTower kept = States.bars(0, 1);
        kept.piece(10, 0, 1);
        kept.hang(0, 0);
        States.bring(kept, 0, 12);
        States.bring(kept, 1, 11);
        kept.below(0, true, true);
        kept.brake(0, true);
        kept.pass(5);
        CHECK.due("HEIGHT, kept up by a BAR", height(kept, 0), 12);
        CHECK.due("HURT, kept up by a BAR", kept.many(13), 0);
    }

    private static void hurtOnlyByPartTwo() {
        CHECK.sentence("If it came down by (2)");
        FlyTower tower = sinking(10, 18);
        tower.below(0, true, true);
        int cue = tower.cue(-1);
        tower.move(cue, 0, 0, 6, 0);
        tower.go(cue);
        CHECK.due("moved down to 0", tower.pass(3), 1);
        CHECK.due("HURT by a MOVE", tower.many(13), 0);
    }

    private static void hurtWherePeopleAre() {
        CHECK.sentence("with PEOPLE below it (WATCHED or not)");
        for (int state = 0; state < 4; state++) {
            FlyTower tower = sinking(1, 10);
            tower.below(0, state >= 2, state % 2 == 1);
            tower.pass(1);
            CHECK.due("HURT, PEOPLE and WATCHED " + state, tower.many(13), state >= 2 ? 1 : 0);
        }
        FlyTower other = States.bars(0, 0);
        other.piece(10, 0, 0);
        other.hang(0, 0);
        States.bring(other, 0, 10);
        other.brake(0, true);
        other.below(1, true, true);
        other.pass(1);
        CHECK.due("HURT, PEOPLE below another BAR", other.many(13), 0);
    }

    private static void hurtOnceForEachBar() {
        CHECK.sentence("HURT (once for each BAR in such a second)");
        FlyTower tower = States.bars(0, 0, 0);
        tower.crew(5);
        tower.cue(-1);
        for (int b = 0; b < 3; b++) {
            tower.piece(10, 0, 0);
            tower.hang(b, b);
            tower.move(0, b, 6, 6, 0);
            tower.below(b, true, true);
        }
        tower.go(0);
        tower.pass(1);
        for (int b = 0; b < 3; b++) {
            tower.brake(b, true);
        }
        tower.pass(1);
        CHECK.due("in one second", tower.many(13), 3);
        tower.pass(1);
        CHECK.due("in two seconds", tower.many(13), 6);
        tower.pass(10);
        CHECK.due("down to 0", tower.many(13), 18);
    }

    private static void overWithoutMoves() {
        CHECK.sentence("If a CUE RUNS, and none of its MOVES is open: it is over");
        FlyTower tower = new FlyTower();
        tower.cue(-1);
        tower.go(0);
        CHECK.due("it RUNS first", tower.many(5), 0);
        CHECK.due("over ever", tower.many(9), 0);
        tower.pass(1);
        CHECK.due("over behind a second", tower.many(9), 1);
        CHECK.due("none RUNS", tower.many(5), -1);
        tower.pass(5);
        CHECK.due("over once", tower.many(9), 1);
    }

    private static void overThoughStopped() {
        CHECK.sentence("If a CUE RUNS (STOPPED or not)");
        FlyTower tower = new FlyTower();
        tower.cue(1);
        tower.cue(-1);
        tower.go(0);
        tower.stop(true);
        tower.pass(1);
        CHECK.due("over", tower.many(9), 1);
        CHECK.due("the one that FOLLOWS RUNS", tower.many(5), 1);
        CHECK.due("that is not STOPPED", tower.many(6), 0);
        tower.stop(true);
        tower.pass(1);
        CHECK.due("over", tower.many(9), 2);
        CHECK.due("STOPPED without a CUE", tower.many(6), 0);
    }

    private static void notOverWhileOneIsOpen() {
        CHECK.sentence("and none of its MOVES is open");
        FlyTower tower = States.bars(1, 1, 0);
        tower.counter(2, 11);
        tower.cue(-1);
        tower.move(0, 0, 0, 1, 0);
        tower.move(0, 1, 12, 6, 0);
        tower.move(0, 2, 12, 6, 0);
        tower.go(0);
        tower.pass(1);
        CHECK.due("one is open", tower.many(8), 1);
        CHECK.due("not over", tower.many(9), 0);
        CHECK.due("it RUNS", tower.many(5), 0);
        tower.stop(true);
        tower.pass(100);
        CHECK.due("not over while it is STOPPED", tower.many(9), 0);
        tower.stop(false);
        tower.pass(1);
        CHECK.due("over in the second of the last one", tower.many(9), 1);
        CHECK.due("ELAPSED without one", tower.many(7), 0);
        CHECK.due("open without one", tower.many(8), 0);
    }

    private static void overAsAllAreRefused() {
        CHECK.sentence("none of its MOVES is open: it is over");
        FlyTower tower = States.bars(0, 0);
        tower.counter(0, 11);
        tower.counter(1, 300);
        tower.cue(-1);
        tower.move(0, 0, 12, 6, 0);
        tower.move(0, 1, 12, 6, 0);
        tower.go(0);
        CHECK.due("none DONE", tower.pass(1), 0);
        CHECK.due("over", tower.many(9), 1);
        CHECK.due("REFUSED", tower.many(10), 2);
    }

    private static void nothingFollows() {
        CHECK.sentence("the CUE that FOLLOWS, if there is one");
        int[] none = {-1, 1, 5};
        for (int follows : none) {
            FlyTower tower = new FlyTower();
            tower.cue(follows);
            tower.go(0);
            tower.pass(3);
            CHECK.due("the CUE that RUNS behind " + follows, tower.many(5), -1);
            CHECK.due("over behind " + follows, tower.many(9), 1);
            CHECK.due("it may go again behind " + follows, tower.go(0), 0);
        }
    }

    private static void theOneThatFollowsBegins() {
        CHECK.sentence("the CUE that FOLLOWS, if there is one, RUNS from then on");
        FlyTower tower = States.bars(1, 1);
        tower.cue(-1);
        tower.move(0, 0, 12, 6, 0);
        tower.move(0, 1, 120, 1, 20);
        tower.cue(0);
        tower.move(1, 0, 6, 6, 0);
        tower.go(0);
        tower.pass(1);
        tower.end();
        CHECK.due("a MOVE of the time before", tower.ofMove(0, 0, 4), 0);
        tower.go(1);
        tower.pass(1);
        CHECK.due("CUE 0 RUNS", tower.many(5), 0);
        CHECK.due("ELAPSED", tower.many(7), 0);
        CHECK.due("open", tower.many(8), 2);
        CHECK.due("its MOVES go in the next second", height(tower, 0), 6);
        tower.pass(1);
        CHECK.due("ELAPSED then", tower.many(7), 1);
        CHECK.due("HEIGHT then", height(tower, 0), 12);
    }

    private static void followsRoundAndRound() {
        CHECK.sentence("the CUE that FOLLOWS RUNS from then on");
        FlyTower tower = States.bars(0);
        tower.cue(1);
        tower.cue(0);
        tower.move(0, 0, 6, 3, 0);
        tower.move(1, 0, 0, 6, 0);
        tower.go(0);
        CHECK.due("DONE in 120 seconds", tower.pass(120), 80);
        CHECK.due("over", tower.many(9), 80);
        CHECK.due("CUE 0 RUNS", tower.many(5), 0);
        FlyTower itself = new FlyTower();
        itself.cue(0);
        itself.go(0);
        itself.pass(120);
        CHECK.due("over, following itself", itself.many(9), 120);
        CHECK.due("it RUNS", itself.many(5), 0);
    }

    private static void runsAwayAheadOfTheEnd() {
        CHECK.sentence("(2) comes ahead of (3)");
        FlyTower tower = rising(10);
        tower.cue(1);
        tower.move(0, 0, 0, 6, 0);
        tower.cue(-1);
        tower.move(1, 0, 1, 6, 0);
        tower.go(0);
        CHECK.due("DONE at 0, then it RUNS AWAY", tower.pass(1), 1);
        CHECK.due("HEIGHT", height(tower, 0), 1);
        CHECK.due("DONE at 1, then it RUNS AWAY", tower.pass(1), 1);
        CHECK.due("HEIGHT then", height(tower, 0), 2);
    }
}
