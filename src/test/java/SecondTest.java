/** Promises 11 to 15, by the rules of a second: moves, runs away, and what follows. */
public final class SecondTest {
    private static final Check CHECK = new Check();

    public static void main(String[] args) {
        motorMoves();
        delays();
        stoppedCueHasNoTime();
        refusals();
        operators();
        operatorOfAMoveThatIsThere();
        crewOfNone();
        peopleBelow();
        lateFirstByCrewOrPeople();
        refusedBeforeLate();
        nearOne();
        nearOneKeepsOthersWaiting();
        touchingAlreadyIsNotNear();
        nearOnlyAtTheEndOfTheWay();
        runsAwayDown();
        runsAwayUp();
        crashes();
        crashOnlyFromFour();
        runsStopAtATouch();
        movedBarDoesNotRunAway();
        motorDoesNotRunAway();
        hurtAtHeads();
        hurtOnlyByComingDown();
        follows();
        nextOneWasNeverTold();
        followsItself();
        stoppedCueWithoutMovesIsOver();
        allRefusedIsOver();
        statesOfLastTime();
        CHECK.end();
    }

    private static int height(FlyTower tower, int bar) {
        return tower.ofBar(bar, 2);
    }

    private static void motorMoves() {
        FlyTower tower = new FlyTower();
        tower.bar(true, 100);
        tower.cue(-1);
        tower.move(0, 0, 10, 4, 0);
        tower.cue(-1);
        tower.move(1, 0, 3, 6, 0);
        tower.go(0);
        int[] due = {4, 8, 10};
        for (int second = 0; second < 3; second++) {
            CHECK.due("moves: done", tower.pass(1), second == 2 ? 1 : 0);
            CHECK.due("moves: height in second " + second, height(tower, 0), due[second]);
        }
        CHECK.due("moves: the cue is over", tower.many(5), -1);
        CHECK.due("moves: over", tower.many(9), 1);
        tower.go(1);
        CHECK.due("moves: down, not yet done", tower.pass(1), 0);
        CHECK.due("moves: down", height(tower, 0), 4);
        CHECK.due("moves: down, done", tower.pass(5), 1);
        CHECK.due("moves: at the target", height(tower, 0), 3);
        CHECK.due("moves: heights gone", tower.ofBar(0, 11), 17);
        CHECK.due("moves: now", tower.many(0), 9);
    }

    private static void delays() {
        FlyTower tower = new FlyTower();
        tower.bar(true, 100);
        tower.bar(true, 100);
        tower.cue(-1);
        tower.move(0, 0, 30, 1, 2);
        tower.move(0, 1, 120, 1, 0);
        tower.go(0);
        tower.pass(2);
        CHECK.due("delay: waits two seconds", height(tower, 0), 0);
        CHECK.due("delay: without one", height(tower, 1), 2);
        CHECK.due("delay: elapsed", tower.many(7), 2);
        CHECK.due("delay: waiting is not late", tower.many(14), 0);
        tower.pass(1);
        CHECK.due("delay: goes in the third", height(tower, 0), 1);
    }

    private static void stoppedCueHasNoTime() {
        FlyTower tower = new FlyTower();
        tower.bar(true, 100);
        tower.cue(-1);
        tower.move(0, 0, 30, 5, 1);
        tower.go(0);
        tower.pass(1);
        tower.stop(true);
        tower.pass(4);
        CHECK.due("stopped: elapsed", tower.many(7), 1);
        CHECK.due("stopped: height", height(tower, 0), 0);
        CHECK.due("stopped: runs still", tower.many(5), 0);
        tower.stop(false);
        tower.pass(1);
        CHECK.due("stopped: elapsed behind it", tower.many(7), 2);
        CHECK.due("stopped: height behind it", height(tower, 0), 5);
    }

    /** A tower whose only bar is by hand and bears one piece; a cue brings it to 60. */
    private static FlyTower balanced(int weight, int counter) {
        FlyTower tower = new FlyTower();
        tower.bar(false, 100);
        tower.piece(weight, 0, 0);
        tower.hang(0, 0);
        tower.counter(0, counter);
        tower.cue(-1);
        tower.move(0, 0, 60, 6, 0);
        return tower;
    }

    private static void refusals() {
        int[] counters = {39, 40, 60, 61};
        for (int counter : counters) {
            FlyTower tower = balanced(50, counter);
            boolean isRefused = counter == 39 || counter == 61;
            tower.go(0);
            CHECK.due("refused: none is done", tower.pass(1), 0);
            CHECK.due("refused at " + counter, tower.ofMove(0, 0, 4), isRefused ? 2 : 0);
            CHECK.due("refused: many at " + counter, tower.many(10), isRefused ? 1 : 0);
            CHECK.due("refused: height at " + counter, height(tower, 0), isRefused ? 0 : 6);
            CHECK.due("refused: running at " + counter, tower.many(5), isRefused ? -1 : 0);
        }
        FlyTower motor = new FlyTower();
        motor.bar(true, 100);
        motor.piece(90, 0, 0);
        motor.hang(0, 0);
        motor.cue(-1);
        motor.move(0, 0, 6, 6, 0);
        motor.go(0);
        CHECK.due("refused: never with a motor", motor.pass(1), 1);
    }

    private static FlyTower handBars(int count, int crew) {
        FlyTower tower = new FlyTower();
        tower.crew(crew);
        tower.cue(-1);
        for (int b = 0; b < count; b++) {
            tower.bar(false, 100);
            tower.move(0, b, 12, 6, 0);
        }
        return tower;
    }

    private static void operators() {
        FlyTower tower = handBars(4, 2);
        tower.bar(true, 100);
        tower.move(0, 4, 12, 6, 0);
        tower.go(0);
        tower.pass(1);
        int[] due = {6, 6, 0, 0, 6};
        int[] late = {0, 0, 1, 1, 0};
        for (int b = 0; b < 5; b++) {
            CHECK.due("crew of 2: height " + b, height(tower, b), due[b]);
            CHECK.due("crew of 2: late " + b, tower.ofMove(0, b, 5), late[b]);
        }
        CHECK.due("crew of 2: second second", tower.pass(1), 3);
        CHECK.due("crew of 2: all late", tower.many(14), 4);
        CHECK.due("crew of 2: open", tower.many(8), 2);
        CHECK.due("crew of 2: the rest", tower.pass(2), 2);
        CHECK.due("crew of 2: late of 3", tower.ofMove(0, 3, 5), 2);
        CHECK.due("crew of 2: over", tower.many(9), 1);
    }

    private static void operatorOfAMoveThatIsThere() {
        FlyTower tower = new FlyTower();
        tower.crew(1);
        tower.bar(false, 100);
        tower.bar(false, 100);
        tower.cue(-1);
        tower.move(0, 0, 0, 1, 0);
        tower.move(0, 1, 1, 1, 0);
        tower.go(0);
        CHECK.due("there already: done", tower.pass(1), 1);
        CHECK.due("there already: uses an operator", tower.ofMove(0, 1, 5), 1);
        CHECK.due("there already: state", tower.ofMove(0, 0, 4), 1);
    }

    private static void crewOfNone() {
        FlyTower tower = handBars(1, 0);
        tower.bar(true, 100);
        tower.move(0, 1, 6, 6, 0);
        tower.go(0);
        CHECK.due("crew of none: the motor", tower.pass(3), 1);
        CHECK.due("crew of none: late", tower.ofMove(0, 0, 5), 3);
        tower.crew(1);
        CHECK.due("crew of none: told anew", tower.pass(2), 1);
    }

    private static void peopleBelow() {
        FlyTower tower = handBars(2, 1);
        tower.below(0, true, false);
        tower.go(0);
        tower.pass(1);
        CHECK.due("people: late", tower.ofMove(0, 0, 5), 1);
        CHECK.due("people: no operator used", height(tower, 1), 6);
        tower.below(0, true, true);
        tower.pass(1);
        CHECK.due("people: goes if watched", height(tower, 0), 6);
        tower.below(0, false, false);
        tower.pass(1);
        CHECK.due("people: goes without people", height(tower, 0), 12);
        FlyTower motor = new FlyTower();
        motor.bar(true, 100);
        motor.cue(-1);
        motor.move(0, 0, 6, 6, 0);
        motor.below(0, true, false);
        motor.go(0);
        CHECK.due("people: a motor is late, too", motor.pass(2), 0);
        CHECK.due("people: late of a motor", motor.many(14), 2);
    }

    private static void lateFirstByCrewOrPeople() {
        FlyTower tower = handBars(2, 1);
        tower.below(1, true, false);
        tower.go(0);
        tower.pass(1);
        CHECK.due("crew and people: late by 1 alone", tower.ofMove(0, 1, 5), 1);
        CHECK.due("crew and people: all late", tower.many(14), 1);
    }

    private static void refusedBeforeLate() {
        FlyTower tower = balanced(50, 0);
        tower.crew(0);
        tower.below(0, true, false);
        tower.go(0);
        tower.pass(1);
        CHECK.due("refused ahead of late", tower.ofMove(0, 0, 4), 2);
        CHECK.due("refused: not late", tower.many(14), 0);
        FlyTower waiting = balanced(50, 0);
        waiting.cue(-1);
        waiting.move(1, 0, 60, 6, 1);
        waiting.go(1);
        waiting.pass(1);
        CHECK.due("waiting ahead of refused", waiting.ofMove(1, 0, 4), 0);
        waiting.pass(1);
        CHECK.due("refused behind waiting", waiting.ofMove(1, 0, 4), 2);
    }

    /**
     * Three bars with motors: 0 is at 30 with a piece of thickness 1 and drop 5, 1 and 2 are at 0.
     * Cue 1 brings 1 and 2 to 60 by 6.
     */
    private static FlyTower towerWithObstacle() {
        FlyTower tower = new FlyTower();
        for (int b = 0; b < 3; b++) {
            tower.bar(true, 100);
        }
        tower.piece(10, 5, 1);
        tower.hang(0, 0);
        tower.cue(-1);
        tower.move(0, 0, 30, 6, 0);
        tower.cue(-1);
        tower.move(1, 1, 60, 5, 0);
        tower.move(1, 2, 60, 5, 0);
        tower.go(0);
        tower.pass(5);
        return tower;
    }

    private static void nearOne() {
        FlyTower tower = towerWithObstacle();
        tower.go(1);
        tower.pass(4);
        CHECK.due("near: not yet", tower.many(11), 0);
        CHECK.due("near: height ahead of it", height(tower, 1), 20);
        tower.pass(1);
        CHECK.due("near: one", tower.many(11), 1);
        CHECK.due("near: stays where it is", height(tower, 1), 20);
        CHECK.due("near: stopped", tower.many(6), 1);
        CHECK.due("near: elapsed", tower.many(7), 5);
        CHECK.due("near: still open", tower.ofMove(1, 0, 4), 0);
        CHECK.due("near: not late", tower.many(14), 0);
        tower.pass(3);
        CHECK.due("near: none more while stopped", tower.many(11), 1);
        tower.stop(false);
        tower.pass(1);
        CHECK.due("near: a second one", tower.many(11), 2);
        CHECK.due("near: stopped again", tower.many(6), 1);
    }

    private static void nearOneKeepsOthersWaiting() {
        FlyTower tower = towerWithObstacle();
        tower.crew(0);
        tower.bar(false, 100);
        tower.cue(-1);
        tower.move(2, 2, 60, 5, 0);
        tower.move(2, 1, 60, 5, 0);
        tower.move(2, 0, 40, 1, 0);
        tower.move(2, 3, 40, 1, 0);
        tower.go(2);
        tower.pass(5);
        CHECK.due("near: none in five seconds", tower.many(11), 0);
        tower.pass(1);
        CHECK.due("near: one in the sixth", tower.many(11), 1);
        CHECK.due("near: the one ahead went", height(tower, 2), 30);
        CHECK.due("near: the one itself did not", height(tower, 1), 25);
        CHECK.due("near: the one behind did not", height(tower, 0), 35);
        CHECK.due("near: the one behind is not late", tower.ofMove(2, 3, 5), 5);
    }

    /** Two bars with motors, side by side; on the first a piece of thickness 1. */
    private static FlyTower pair(int drop) {
        FlyTower tower = new FlyTower();
        tower.bar(true, 100);
        tower.bar(true, 100);
        tower.piece(10, drop, 1);
        tower.hang(0, 0);
        return tower;
    }

    private static void touchingAlreadyIsNotNear() {
        FlyTower tower = pair(20);
        tower.cue(-1);
        tower.move(0, 0, 24, 6, 0);
        tower.cue(-1);
        tower.move(1, 0, 0, 6, 0);
        tower.go(0);
        CHECK.due("touching already: goes", tower.pass(4), 1);
        CHECK.due("touching already: not near", tower.many(11), 0);
        tower.go(1);
        tower.pass(1);
        CHECK.due("touching anew: near", tower.many(11), 1);
        CHECK.due("touching anew: stays", height(tower, 0), 24);

        FlyTower apart = pair(5);
        apart.cue(-1);
        apart.move(0, 0, 6, 6, 0);
        apart.move(0, 1, 6, 6, 0);
        apart.go(0);
        apart.pass(1);
        CHECK.due("the one ahead left it: near", apart.many(11), 1);
        FlyTower together = pair(6);
        together.cue(-1);
        together.move(0, 0, 6, 6, 0);
        together.move(0, 1, 6, 6, 0);
        together.go(0);
        CHECK.due("the one ahead touches it still: both done", together.pass(1), 2);
    }

    private static void nearOnlyAtTheEndOfTheWay() {
        int[] speeds = {4, 5};
        for (int speed : speeds) {
            FlyTower tower = pair(0);
            tower.cue(1);
            tower.move(0, 0, 30, 6, 0);
            tower.cue(-1);
            tower.move(1, 1, 120, speed, 0);
            tower.go(0);
            tower.pass(13);
            CHECK.due("near by " + speed, tower.many(11), speed == 5 ? 1 : 0);
            CHECK.due("height by " + speed, height(tower, 1), speed == 5 ? 25 : 32);
        }
    }

    private static void runsAwayDown() {
        int[] counters = {40, 49, 50};
        for (int counter : counters) {
            FlyTower tower = balanced(50, counter);
            tower.go(0);
            tower.pass(10);
            tower.brake(0, true);
            CHECK.due("runs down: no move is done", tower.pass(3), 0);
            CHECK.due("runs down at " + counter, height(tower, 0), counter == 50 ? 60 : 57);
            CHECK.due("runs down: heights gone at " + counter, tower.ofBar(0, 11), counter == 50 ? 60 : 63);
            tower.brake(0, false);
            tower.pass(3);
            CHECK.due("mended at " + counter, height(tower, 0), counter == 50 ? 60 : 57);
        }
        FlyTower resting = balanced(90, 0);
        resting.brake(0, true);
        resting.pass(5);
        CHECK.due("runs down: not below 0", height(resting, 0), 0);
        CHECK.due("runs down: no way, no crash", resting.many(12), 0);
    }

    /** A tower with one bar by hand, without pieces, a counter, and a broken brake. */
    private static FlyTower rising(int counter) {
        FlyTower tower = new FlyTower();
        tower.bar(false, 100);
        tower.counter(0, counter);
        tower.brake(0, true);
        return tower;
    }

    private static void runsAwayUp() {
        int[] counters = {0, 1, 10, 11, 70, 71, 80, 81, 300};
        int[] due = {0, 1, 1, 2, 7, 8, 8, 8, 8};
        for (int i = 0; i < due.length; i++) {
            FlyTower tower = rising(counters[i]);
            tower.pass(1);
            CHECK.due("runs up at " + counters[i], height(tower, 0), due[i]);
            CHECK.due("runs up: heights gone at " + counters[i], tower.ofBar(0, 11), due[i]);
        }
    }

    private static void crashes() {
        FlyTower tower = rising(300);
        tower.pass(14);
        CHECK.due("crash: not yet", tower.many(12), 0);
        tower.pass(1);
        CHECK.due("crash: at 120", height(tower, 0), 120);
        CHECK.due("crash", tower.many(12), 1);
        tower.pass(5);
        CHECK.due("crash: stays at 120", height(tower, 0), 120);
        CHECK.due("crash: once", tower.many(12), 1);
        CHECK.due("crash: heights gone", tower.ofBar(0, 11), 120);
    }

    private static void crashOnlyFromFour() {
        int[] counters = {30, 40, 70};
        for (int counter : counters) {
            FlyTower tower = rising(counter);
            tower.pass(60);
            CHECK.due("crash: at 120 by " + counter, height(tower, 0), 120);
            CHECK.due("crash by " + counter, tower.many(12), counter == 40 ? 1 : 0);
        }
    }

    private static void runsStopAtATouch() {
        FlyTower tower = new FlyTower();
        tower.bar(true, 100);
        tower.bar(false, 100);
        tower.piece(10, 5, 1);
        tower.hang(0, 0);
        tower.counter(1, 70);
        tower.cue(-1);
        tower.move(0, 0, 30, 6, 0);
        tower.go(0);
        tower.pass(5);
        tower.brake(1, true);
        tower.pass(3);
        CHECK.due("run: on its way", height(tower, 1), 21);
        tower.pass(1);
        CHECK.due("run: stops ahead of the touch", height(tower, 1), 24);
        tower.pass(2);
        CHECK.due("run: stays there", height(tower, 1), 24);
        CHECK.due("run: that is no near one", tower.many(11), 0);
        CHECK.due("run: that is no crash", tower.many(12), 0);

        FlyTower touching = pair(10);
        touching.bar(false, 100);
        touching.piece(10, 0, 1);
        touching.hang(1, 2);
        touching.counter(2, 80);
        touching.brake(2, true);
        touching.pass(1);
        CHECK.due("run: on while it touches already", height(touching, 2), 7);

        FlyTower both = new FlyTower();
        both.bar(false, 100);
        both.bar(false, 100);
        both.piece(1, 0, 1);
        both.hang(0, 0);
        both.counter(0, 40);
        both.counter(1, 80);
        both.brake(0, true);
        both.brake(1, true);
        both.pass(1);
        CHECK.due("run: bar by bar, the first", height(both, 0), 4);
        CHECK.due("run: bar by bar, the second", height(both, 1), 3);
    }

    private static void movedBarDoesNotRunAway() {
        FlyTower tower = balanced(50, 40);
        tower.brake(0, true);
        tower.go(0);
        tower.pass(1);
        CHECK.due("moved: does not run away", height(tower, 0), 6);
        tower.stop(true);
        tower.pass(1);
        CHECK.due("stopped: runs away", height(tower, 0), 5);
        tower.stop(false);
        tower.crew(0);
        tower.pass(1);
        CHECK.due("late: runs away", height(tower, 0), 4);

        FlyTower waiting = new FlyTower();
        waiting.bar(false, 100);
        waiting.counter(0, 10);
        waiting.brake(0, true);
        waiting.cue(1);
        waiting.move(0, 0, 0, 6, 0);
        waiting.cue(-1);
        waiting.move(1, 0, 30, 6, 1);
        waiting.go(0);
        CHECK.due("there already: done", waiting.pass(1), 1);
        CHECK.due("there already: runs away", height(waiting, 0), 1);
        waiting.pass(1);
        CHECK.due("waiting: runs away", height(waiting, 0), 2);
        waiting.pass(1);
        CHECK.due("waiting no more: moves", height(waiting, 0), 8);
    }

    private static void motorDoesNotRunAway() {
        FlyTower tower = new FlyTower();
        tower.bar(true, 100);
        tower.piece(90, 0, 0);
        tower.hang(0, 0);
        tower.cue(-1);
        tower.move(0, 0, 60, 6, 0);
        tower.brake(0, true);
        tower.go(0);
        tower.pass(20);
        CHECK.due("a motor does not run away", height(tower, 0), 60);
        CHECK.due("a broken brake of a motor counts", tower.many(15), 1);
    }

    private static void hurtAtHeads() {
        FlyTower tower = new FlyTower();
        tower.cue(-1);
        for (int b = 0; b < 2; b++) {
            tower.bar(false, 100);
            tower.piece(10, 0, 0);
            tower.hang(b, b);
            tower.move(0, b, 22, 6, 0);
        }
        tower.go(0);
        tower.pass(4);
        tower.below(0, true, true);
        tower.brake(0, true);
        tower.brake(1, true);
        tower.pass(1);
        CHECK.due("hurt: not at 21", tower.many(13), 0);
        tower.pass(1);
        CHECK.due("hurt: at 20", tower.many(13), 1);
        tower.below(1, true, false);
        tower.pass(1);
        CHECK.due("hurt: by both bars", tower.many(13), 3);
        tower.below(0, false, true);
        tower.pass(1);
        CHECK.due("hurt: where people are alone", tower.many(13), 4);
        tower.pass(60);
        CHECK.due("hurt: not any more at 0", tower.many(13), 22);
        CHECK.due("hurt: no crash by that", tower.many(12), 0);
    }

    private static void hurtOnlyByComingDown() {
        FlyTower up = rising(10);
        up.below(0, true, true);
        up.pass(15);
        CHECK.due("hurt: not on the way up", up.many(13), 0);
        up.cue(-1);
        up.move(0, 0, 0, 6, 0);
        up.go(0);
        CHECK.due("hurt: moved down", up.pass(3), 1);
        CHECK.due("hurt: not by a move", up.many(13), 0);
    }

    private static void follows() {
        FlyTower tower = new FlyTower();
        tower.bar(true, 100);
        tower.cue(2);
        tower.move(0, 0, 6, 6, 0);
        tower.cue(-1);
        tower.cue(5);
        tower.move(2, 0, 18, 6, 0);
        tower.go(0);
        CHECK.due("follows: the first", tower.pass(1), 1);
        CHECK.due("follows: runs", tower.many(5), 2);
        CHECK.due("follows: elapsed", tower.many(7), 0);
        CHECK.due("follows: open", tower.many(8), 1);
        CHECK.due("follows: begins in the next second", height(tower, 0), 6);
        CHECK.due("follows: over", tower.many(9), 1);
        CHECK.due("follows: the second", tower.pass(2), 1);
        CHECK.due("follows: no such cue", tower.many(5), -1);
        CHECK.due("follows: elapsed without one", tower.many(7), 0);
        CHECK.due("follows: both over", tower.many(9), 2);
    }

    private static void nextOneWasNeverTold() {
        FlyTower tower = new FlyTower();
        tower.cue(1);
        tower.go(0);
        tower.pass(1);
        CHECK.due("follows: never told", tower.many(5), -1);
        CHECK.due("follows: never told, over", tower.many(9), 1);
    }

    private static void followsItself() {
        FlyTower tower = new FlyTower();
        tower.cue(0);
        tower.go(0);
        tower.pass(5);
        CHECK.due("follows itself: over", tower.many(9), 5);
        CHECK.due("follows itself: runs", tower.many(5), 0);
        CHECK.due("follows itself: elapsed", tower.many(7), 0);
    }

    private static void stoppedCueWithoutMovesIsOver() {
        FlyTower tower = new FlyTower();
        tower.bar(true, 100);
        tower.cue(1);
        tower.cue(-1);
        tower.move(1, 0, 6, 6, 0);
        tower.go(0);
        tower.stop(true);
        tower.pass(1);
        CHECK.due("stopped without moves: over", tower.many(9), 1);
        CHECK.due("stopped without moves: follows", tower.many(5), 1);
        CHECK.due("stopped without moves: not stopped then", tower.many(6), 0);
        CHECK.due("stopped without moves: goes", tower.pass(1), 1);
    }

    private static void allRefusedIsOver() {
        FlyTower tower = balanced(50, 0);
        tower.go(0);
        CHECK.due("all refused: none done", tower.pass(1), 0);
        CHECK.due("all refused: over", tower.many(9), 1);
        CHECK.due("all refused: none runs", tower.many(5), -1);
    }

    private static void statesOfLastTime() {
        FlyTower tower = handBars(2, 1);
        tower.go(0);
        tower.pass(4);
        CHECK.due("last time: late", tower.ofMove(0, 1, 5), 2);
        CHECK.due("last time: done", tower.ofMove(0, 1, 4), 1);
        tower.bar(true, 100);
        tower.move(0, 2, 0, 1, 0);
        CHECK.due("told since: none", tower.ofMove(0, 2, 4), -1);
        CHECK.due("told since: the others stay", tower.ofMove(0, 1, 4), 1);
        tower.crew(2);
        tower.go(0);
        CHECK.due("begun again: open", tower.ofMove(0, 2, 4), 0);
        CHECK.due("begun again: not late", tower.ofMove(0, 1, 5), 0);
        CHECK.due("begun again: all late stay", tower.many(14), 2);
        CHECK.due("begun again: done", tower.pass(1), 3);
    }
}
