/** The boundary cases that the document names for a second (Terms 3), sentence by sentence. */
public final class EdgesSecondTest {
    private static final Check CHECK = new Check();

    public static void main(String[] args) {
        nowIsOneMore();
        elapsedIsOneMore();
        delayWaits();
        stoppedInThisSecondWaits();
        waitingComesFirst();
        refusedAboveTen();
        refusedComesAheadOfLate();
        refusedIsOpenNoMore();
        motorIsNeverRefused();
        crewUsedUp();
        operatorsAreFreeInTheNextSecond();
        motorUsesNoOperator();
        whoUsesNoOperator();
        whoUsesAnOperator();
        peopleNotWatched();
        lateByOneAlone();
        goesSpeedNearer();
        goesAllThatIsLeft();
        thereAlready();
        farthestWay();
        nearFromBelow();
        nearFromAbove();
        nearWithAnOwnDrop();
        nearByNumbers();
        notNearWhereItTouchesAlready();
        nearToAnotherThanTheTouched();
        nearStaysAndStops();
        nearAgainAsItGoesOn();
        CHECK.end();
    }

    private static int height(FlyTower tower, int bar) {
        return tower.ofBar(bar, 2);
    }

    private static void nowIsOneMore() {
        CHECK.sentence("NOW is 1 more (0 at first)");
        FlyTower tower = States.bars(1);
        CHECK.due("at first", tower.many(0), 0);
        tower.pass(1);
        CHECK.due("without a CUE", tower.many(0), 1);
        tower.cue(-1);
        tower.move(0, 0, 120, 1, 0);
        tower.go(0);
        tower.pass(2);
        CHECK.due("while a CUE RUNS", tower.many(0), 3);
        tower.stop(true);
        tower.pass(3);
        CHECK.due("while it is STOPPED", tower.many(0), 6);
    }

    private static void elapsedIsOneMore() {
        CHECK.sentence("If a CUE RUNS and is not STOPPED: ELAPSED is 1 more.");
        FlyTower tower = States.bars(1);
        tower.cue(-1);
        tower.move(0, 0, 120, 1, 0);
        tower.pass(5);
        CHECK.due("without a CUE", tower.many(7), 0);
        tower.go(0);
        CHECK.due("as it begins", tower.many(7), 0);
        tower.pass(1);
        CHECK.due("behind a second", tower.many(7), 1);
        tower.stop(true);
        tower.pass(1);
        CHECK.due("STOPPED", tower.many(7), 1);
        tower.stop(false);
        tower.pass(1);
        CHECK.due("as it goes on", tower.many(7), 2);
    }

    private static void delayWaits() {
        CHECK.sentence("a DELAY greater than ELAPSED less 1: it waits");
        for (int delay = 0; delay <= 20; delay++) {
            FlyTower tower = States.bars(1);
            tower.cue(-1);
            tower.move(0, 0, 120, 6, delay);
            tower.go(0);
            for (int second = 0; second < delay; second++) {
                tower.pass(1);
                CHECK.due("HEIGHT in second " + second + " of DELAY " + delay, height(tower, 0), 0);
            }
            CHECK.due("open", tower.ofMove(0, 0, 4), 0);
            CHECK.due("LATE", tower.many(14), 0);
            tower.pass(1);
            CHECK.due("HEIGHT behind DELAY " + delay, height(tower, 0), 6);
        }
    }

    private static void stoppedInThisSecondWaits() {
        CHECK.sentence("the CUE was STOPPED in this second: it waits");
        FlyTower tower = towerWithBarAt30(0, 0);
        tower.crew(0);
        tower.bar(false, 100);
        tower.bar(false, 100);
        tower.counter(3, 11);
        tower.below(2, true, false);
        tower.cue(-1);
        int cue = tower.cue(-1);
        tower.move(cue, 1, 60, 6, 0);
        tower.move(cue, 2, 60, 6, 20);
        tower.move(cue, 3, 60, 6, 4);
        tower.move(cue, 0, 60, 6, 4);
        tower.go(cue);
        tower.pass(5);
        CHECK.due("near ones", tower.many(11), 1);
        CHECK.due("not REFUSED behind it", tower.many(10), 0);
        CHECK.due("not moved behind it", height(tower, 0), 30);
        CHECK.due("all of them open", tower.many(8), 4);
        CHECK.due("ELAPSED", tower.many(7), 5);
    }

    private static void waitingComesFirst() {
        CHECK.sentence("by the first of these that holds: it waits");
        FlyTower tower = States.bars(0);
        tower.counter(0, 11);
        tower.crew(0);
        tower.below(0, true, false);
        tower.cue(-1);
        tower.move(0, 0, 9, 1, 1);
        tower.go(0);
        tower.pass(1);
        CHECK.due("open", tower.ofMove(0, 0, 4), 0);
        CHECK.due("not LATE", tower.ofMove(0, 0, 5), 0);
        tower.pass(1);
        CHECK.due("REFUSED", tower.ofMove(0, 0, 4), 2);
    }

    private static void refusedAboveTen() {
        CHECK.sentence("by HAND, with a DIFFERENCE of more than 10, without its sign: it is REFUSED");
        int[] counters = {0, 39, 40, 41, 50, 59, 60, 61, 300};
        for (int counter : counters) {
            FlyTower tower = States.bars(0);
            tower.piece(50, 0, 0);
            tower.hang(0, 0);
            int difference = tower.counter(0, counter);
            boolean isRefused = difference > 10 || difference < -10;
            tower.cue(-1);
            tower.move(0, 0, 60, 6, 0);
            tower.go(0);
            tower.pass(1);
            CHECK.due("state by " + difference, tower.ofMove(0, 0, 4), isRefused ? 2 : 0);
            CHECK.due("HEIGHT by " + difference, height(tower, 0), isRefused ? 0 : 6);
            CHECK.due("REFUSED ever by " + difference, tower.many(10), isRefused ? 1 : 0);
            CHECK.due("LATE by " + difference, tower.many(14), 0);
        }
    }

    private static void refusedComesAheadOfLate() {
        CHECK.sentence("by the first of these that holds: it is REFUSED");
        FlyTower tower = States.bars(0);
        tower.counter(0, 11);
        tower.crew(0);
        tower.below(0, true, false);
        tower.cue(-1);
        tower.move(0, 0, 0, 1, 0);
        tower.go(0);
        CHECK.due("at its TARGET, but not DONE", tower.pass(1), 0);
        CHECK.due("REFUSED", tower.ofMove(0, 0, 4), 2);
        CHECK.due("not LATE", tower.many(14), 0);
    }

    private static void refusedIsOpenNoMore() {
        CHECK.sentence("REFUSED (and open no more)");
        FlyTower tower = States.bars(0, 1);
        tower.counter(0, 11);
        tower.cue(-1);
        tower.move(0, 0, 9, 1, 0);
        tower.move(0, 1, 9, 1, 0);
        tower.go(0);
        CHECK.due("open ahead of it", tower.many(8), 2);
        tower.pass(1);
        CHECK.due("open behind it", tower.many(8), 1);
        tower.pass(8);
        CHECK.due("REFUSED once", tower.many(10), 1);
        CHECK.due("over without it", tower.many(9), 1);
        tower.counter(0, 10);
        tower.go(0);
        tower.pass(9);
        CHECK.due("as it begins again: DONE", tower.ofMove(0, 0, 4), 1);
    }

    private static void motorIsNeverRefused() {
        CHECK.sentence("DIFFERENCE is LOAD less COUNTER; 0 with a MOTOR");
        FlyTower tower = States.bars(1);
        tower.piece(90, 0, 0);
        tower.hang(0, 0);
        CHECK.due("DIFFERENCE", tower.ofBar(0, 7), 0);
        tower.cue(-1);
        tower.move(0, 0, 6, 6, 0);
        tower.go(0);
        CHECK.due("DONE", tower.pass(1), 1);
    }

    private static FlyTower sixByHand(int crew) {
        FlyTower tower = States.bars(0, 0, 0, 0, 0, 0);
        tower.crew(crew);
        tower.cue(-1);
        for (int b = 0; b < 6; b++) {
            tower.move(0, b, 120, 2, 0);
        }
        return tower;
    }

    private static void crewUsedUp() {
        CHECK.sentence("by HAND, with all the CREW used by MOVES ahead of it in this second: it is LATE by 1");
        for (int crew = 0; crew <= 5; crew++) {
            FlyTower tower = sixByHand(crew);
            tower.go(0);
            tower.pass(1);
            for (int m = 0; m < 6; m++) {
                CHECK.due("HEIGHT of " + m + " by a CREW of " + crew, height(tower, m), m < crew ? 2 : 0);
                CHECK.due("LATE of " + m + " by a CREW of " + crew, tower.ofMove(0, m, 5), m < crew ? 0 : 1);
            }
            CHECK.due("all LATE by a CREW of " + crew, tower.many(14), 6 - crew);
        }
    }

    private static void operatorsAreFreeInTheNextSecond() {
        CHECK.sentence("used by MOVES ahead of it in this second");
        FlyTower tower = States.bars(0, 0);
        tower.crew(1);
        tower.cue(-1);
        tower.move(0, 0, 2, 2, 0);
        tower.move(0, 1, 2, 2, 0);
        tower.go(0);
        CHECK.due("the first second", tower.pass(1), 1);
        CHECK.due("HEIGHT of 1", height(tower, 1), 0);
        CHECK.due("the next second", tower.pass(1), 1);
        CHECK.due("HEIGHT of 1", height(tower, 1), 2);
        FlyTower more = sixByHand(0);
        more.go(0);
        more.pass(1);
        more.crew(5);
        more.pass(1);
        CHECK.due("HEIGHT of 4 by a CREW told between", height(more, 4), 2);
        CHECK.due("HEIGHT of 5 by a CREW told between", height(more, 5), 0);
    }

    private static void motorUsesNoOperator() {
        CHECK.sentence("otherwise it uses an OPERATOR, if by HAND");
        FlyTower tower = States.bars(1, 0, 1, 0);
        tower.crew(1);
        tower.cue(-1);
        for (int b = 0; b < 4; b++) {
            tower.move(0, b, 60, 6, 0);
        }
        tower.go(0);
        tower.pass(1);
        int[] due = {6, 6, 6, 0};
        for (int b = 0; b < 4; b++) {
            CHECK.due("HEIGHT of " + b, height(tower, b), due[b]);
        }
        tower.crew(0);
        tower.pass(1);
        CHECK.due("a MOTOR without a CREW", height(tower, 2), 12);
        CHECK.due("by HAND without a CREW", height(tower, 1), 6);
    }

    /** A CREW of 1, and two BARS by HAND; MOVE 1 goes, if MOVE 0 uses no OPERATOR. */
    private static FlyTower crewOfOne(int target, int delay) {
        FlyTower tower = States.bars(0, 0);
        tower.crew(1);
        tower.cue(-1);
        tower.move(0, 0, target, 6, delay);
        tower.move(0, 1, 60, 6, 0);
        return tower;
    }

    private static void whoUsesNoOperator() {
        CHECK.sentence("LATE by 1 (with no OPERATOR used); otherwise it uses an OPERATOR");
        FlyTower late = crewOfOne(60, 0);
        late.below(0, true, false);
        late.go(0);
        late.pass(1);
        CHECK.due("ahead of it one above PEOPLE", height(late, 1), 6);
        FlyTower waiting = crewOfOne(60, 1);
        waiting.go(0);
        waiting.pass(1);
        CHECK.due("ahead of it one that waits", height(waiting, 1), 6);
        waiting.pass(1);
        CHECK.due("it waits no more", height(waiting, 1), 6);
        FlyTower refused = crewOfOne(60, 0);
        refused.counter(0, 11);
        refused.go(0);
        refused.pass(1);
        CHECK.due("ahead of it one that is REFUSED", height(refused, 1), 6);
        FlyTower done = crewOfOne(6, 0);
        done.go(0);
        done.pass(2);
        CHECK.due("ahead of it one that is DONE since before", height(done, 1), 6);
    }

    private static void whoUsesAnOperator() {
        CHECK.sentence("it uses an OPERATOR, if by HAND, and its BAR goes SPEED nearer, or all that is left (also 0)");
        int[] targets = {60, 6, 3, 0};
        for (int target : targets) {
            FlyTower tower = crewOfOne(target, 0);
            tower.go(0);
            tower.pass(1);
            CHECK.due("behind one to " + target, height(tower, 1), 0);
            CHECK.due("LATE behind one to " + target, tower.ofMove(0, 1, 5), 1);
        }
    }

    private static void peopleNotWatched() {
        CHECK.sentence("with PEOPLE below its BAR that is not WATCHED: it is LATE by 1");
        for (int isMotor = 0; isMotor <= 1; isMotor++) {
            for (int state = 0; state < 4; state++) {
                FlyTower tower = States.bars(isMotor, isMotor);
                tower.cue(-1);
                tower.move(0, 0, 60, 6, 0);
                boolean arePeople = state >= 2;
                boolean isWatched = state % 2 == 1;
                tower.below(0, arePeople, isWatched);
                tower.below(1, true, false);
                tower.go(0);
                tower.pass(1);
                boolean isLate = arePeople && !isWatched;
                CHECK.due("HEIGHT, PEOPLE and WATCHED " + state, height(tower, 0), isLate ? 0 : 6);
                CHECK.due("LATE, PEOPLE and WATCHED " + state, tower.ofMove(0, 0, 5), isLate ? 1 : 0);
                CHECK.due("open, PEOPLE and WATCHED " + state, tower.ofMove(0, 0, 4), 0);
            }
        }
    }

    private static void lateByOneAlone() {
        CHECK.sentence("by the first of these that holds: it is LATE by 1");
        FlyTower tower = States.bars(0);
        tower.crew(0);
        tower.below(0, true, false);
        tower.cue(-1);
        tower.move(0, 0, 0, 6, 0);
        tower.go(0);
        CHECK.due("at its TARGET, but not DONE", tower.pass(1), 0);
        CHECK.due("LATE", tower.ofMove(0, 0, 5), 1);
        tower.crew(1);
        tower.pass(1);
        CHECK.due("LATE by PEOPLE alone", tower.ofMove(0, 0, 5), 2);
        tower.below(0, true, true);
        CHECK.due("DONE in the end", tower.pass(1), 1);
        CHECK.due("all LATE", tower.many(14), 2);
    }

    private static void goesSpeedNearer() {
        CHECK.sentence("its BAR goes SPEED nearer to TARGET");
        for (int speed = 1; speed <= 6; speed++) {
            FlyTower tower = States.bars(1);
            States.bring(tower, 0, 60);
            tower.cue(-1);
            tower.move(1, 0, 120, speed, 0);
            tower.cue(-1);
            tower.move(2, 0, 0, speed, 0);
            tower.go(1);
            tower.pass(1);
            CHECK.due("up by " + speed, height(tower, 0), 60 + speed);
            tower.end();
            tower.go(2);
            tower.pass(2);
            CHECK.due("down by " + speed, height(tower, 0), 60 - speed);
            CHECK.due("heights gone by " + speed, tower.ofBar(0, 11), 60 + 3 * speed);
        }
    }

    private static void goesAllThatIsLeft() {
        CHECK.sentence("or all that is left. At its TARGET it is DONE");
        for (int left = 1; left <= 7; left++) {
            FlyTower tower = States.bars(1);
            States.bring(tower, 0, 60);
            int[] targets = {60 + left, 60};
            for (int i = 0; i < 2; i++) {
                int cue = tower.cue(-1);
                tower.move(cue, 0, targets[i], 6, 0);
                tower.go(cue);
                boolean isThere = left <= 6;
                CHECK.due("DONE, to " + targets[i] + " by " + left, tower.pass(1), isThere ? 1 : 0);
                CHECK.due("state, to " + targets[i], tower.ofMove(cue, 0, 4), isThere ? 1 : 0);
                CHECK.due("HEIGHT is not beyond " + targets[i], height(tower, 0),
                    isThere ? targets[i] : i == 0 ? 66 : 61);
                CHECK.due("the rest to " + targets[i], tower.pass(1), isThere ? 0 : 1);
            }
        }
    }

    private static void thereAlready() {
        CHECK.sentence("all that is left (also 0). DONE (also one that was there already)");
        FlyTower tower = States.bars(1, 0);
        tower.cue(-1);
        tower.move(0, 0, 0, 6, 0);
        tower.move(0, 1, 0, 1, 0);
        tower.go(0);
        CHECK.due("at 0", tower.pass(1), 2);
        CHECK.due("heights gone", tower.ofBar(0, 11) + tower.ofBar(1, 11), 0);
        CHECK.due("over", tower.many(9), 1);
        States.bring(tower, 0, 120);
        tower.cue(-1);
        tower.move(2, 0, 120, 6, 0);
        tower.go(2);
        CHECK.due("at 120", tower.pass(1), 1);
        CHECK.due("HEIGHT", height(tower, 0), 120);
        FlyTower delayed = States.bars(1);
        delayed.cue(-1);
        delayed.move(0, 0, 0, 6, 1);
        delayed.go(0);
        CHECK.due("not while it waits", delayed.pass(1), 0);
        CHECK.due("as it waits no more", delayed.pass(1), 1);
    }

    private static void farthestWay() {
        CHECK.sentence("HEIGHT (0 to 120), SPEED (1 to 6)");
        FlyTower tower = States.bars(1);
        tower.cue(-1);
        tower.move(0, 0, 120, 1, 0);
        tower.cue(-1);
        tower.move(1, 0, 0, 1, 0);
        tower.go(0);
        CHECK.due("119 up", tower.pass(119), 0);
        CHECK.due("120 up", tower.pass(1), 1);
        tower.go(1);
        CHECK.due("119 down", tower.pass(119), 0);
        CHECK.due("120 down", tower.pass(1), 1);
        CHECK.due("HEIGHT", height(tower, 0), 0);
    }

    /** Three BARS with MOTORS; 0 is at 30, with a PIECE of THICKNESS 1. CUE 0 is told for that. */
    private static FlyTower towerWithBarAt30(int drop, int dropOf1) {
        FlyTower tower = States.bars(1, 1, 1);
        tower.piece(1, drop, 1);
        tower.hang(0, 0);
        tower.piece(1, dropOf1, 0);
        tower.hang(1, 1);
        States.bring(tower, 0, 30);
        return tower;
    }

    /** From one HEIGHT, BAR 1 goes on to another in one second; whether that is a NEAR one. */
    private static void nearOrNot(FlyTower tower, int from, int to, boolean isNear) {
        int cue = tower.cue(-1);
        tower.move(cue, 1, to, 6, 0);
        tower.go(cue);
        CHECK.due("DONE from " + from + " to " + to, tower.pass(1), isNear ? 0 : 1);
        CHECK.due("near from " + from + " to " + to, tower.many(11), isNear ? 1 : 0);
        CHECK.due("HEIGHT from " + from + " to " + to, height(tower, 1), isNear ? from : to);
        CHECK.due("STOPPED from " + from + " to " + to, tower.many(6), isNear ? 1 : 0);
    }

    private static void nearFromBelow() {
        CHECK.sentence("if at the end of that way it would TOUCH a BAR there: it stays where it is");
        for (int drop = 0; drop <= 2; drop++) {
            for (int to = 27; to <= 32; to++) {
                FlyTower tower = towerWithBarAt30(drop, 0);
                States.bring(tower, 1, 26);
                nearOrNot(tower, 26, to, to >= 30 - drop && to <= 30);
            }
        }
    }

    private static void nearFromAbove() {
        CHECK.sentence("A BAR fills heights from HEIGHT less DEEP to HEIGHT.");
        for (int to = 28; to <= 33; to++) {
            FlyTower tower = States.bars(1, 1);
            tower.piece(1, 1, 1);
            tower.hang(0, 0);
            States.bring(tower, 1, 34);
            States.bring(tower, 0, 30);
            nearOrNot(tower, 34, to, to == 29 || to == 30);
        }
    }

    private static void nearWithAnOwnDrop() {
        CHECK.sentence("TOUCH, if some height is filled by both");
        for (int to = 35; to <= 40; to++) {
            FlyTower tower = States.bars(1, 1);
            tower.piece(1, 0, 1);
            tower.hang(0, 0);
            tower.piece(1, 7, 0);
            tower.hang(1, 1);
            States.bring(tower, 1, 41);
            States.bring(tower, 0, 30);
            nearOrNot(tower, 41, to, to <= 37);
        }
    }

    private static void nearByNumbers() {
        CHECK.sentence("TOUCH, if their numbers differ by no more than WIDE of both together");
        for (int one = 0; one <= 2; one++) {
            for (int other = 0; other <= 2; other++) {
                for (int apart = 1; apart <= 6; apart++) {
                    FlyTower tower = States.bars(1, 1, 1, 1, 1, 1, 1);
                    tower.piece(1, 0, one);
                    tower.piece(1, 0, other);
                    tower.hang(0, 0);
                    tower.hang(1, apart);
                    States.bring(tower, 0, 6);
                    int cue = tower.cue(-1);
                    tower.move(cue, apart, 6, 6, 0);
                    tower.go(cue);
                    tower.pass(1);
                    CHECK.due("near by " + one + " and " + other + ", " + apart + " apart", tower.many(11),
                        apart <= one + other ? 1 : 0);
                }
            }
        }
    }

    private static void notNearWhereItTouchesAlready() {
        CHECK.sentence("a BAR there that it does not TOUCH where it is");
        FlyTower tower = States.bars(1, 1);
        tower.piece(1, 10, 1);
        tower.hang(0, 0);
        tower.cue(-1);
        tower.move(0, 0, 11, 5, 0);
        tower.go(0);
        tower.pass(2);
        CHECK.due("TOUCHES still at 10", tower.touch(0, 1), true);
        CHECK.due("to 11, where it does not", tower.pass(1), 1);
        CHECK.due("near ones", tower.many(11), 0);
        tower.cue(-1);
        tower.move(1, 0, 10, 5, 0);
        tower.go(1);
        CHECK.due("back to 10", tower.pass(1), 0);
        CHECK.due("near ones then", tower.many(11), 1);
        CHECK.due("it stays", height(tower, 0), 11);
    }

    private static void nearToAnotherThanTheTouched() {
        CHECK.sentence("a BAR there that it does not TOUCH where it is");
        FlyTower tower = States.bars(1, 1, 1);
        tower.piece(1, 20, 1);
        tower.hang(0, 1);
        States.bring(tower, 1, 6);
        States.bring(tower, 2, 6);
        States.bring(tower, 1, 26);
        CHECK.due("BAR 1 and 2 TOUCH", tower.touch(1, 2), true);
        CHECK.due("BAR 0 and 1 do not", tower.touch(0, 1), false);
        tower.cue(-1);
        tower.move(3, 1, 20, 6, 0);
        tower.go(3);
        tower.pass(1);
        CHECK.due("near to 0, though it TOUCHES 2 already", tower.many(11), 1);
        CHECK.due("it stays", height(tower, 1), 26);
    }

    private static void nearStaysAndStops() {
        CHECK.sentence("it stays where it is, the CUE is STOPPED (that is a NEAR one)");
        FlyTower tower = towerWithBarAt30(0, 0);
        int cue = tower.cue(2);
        tower.move(cue, 2, 25, 5, 0);
        tower.move(cue, 1, 60, 5, 0);
        tower.cue(-1);
        tower.go(cue);
        CHECK.due("DONE ahead of it", tower.pass(5), 1);
        CHECK.due("no near one", tower.many(11), 0);
        tower.pass(1);
        int[] what = {5, 6, 7, 8, 9, 11, 14};
        int[] due = {cue, 1, 6, 1, 1, 1, 0};
        for (int i = 0; i < what.length; i++) {
            CHECK.due("many(" + what[i] + ")", tower.many(what[i]), due[i]);
        }
        CHECK.due("it stays", height(tower, 1), 25);
        CHECK.due("its way does not count", tower.ofBar(1, 11), 25);
        CHECK.due("it is open", tower.ofMove(cue, 1, 4), 0);
    }

    private static void nearAgainAsItGoesOn() {
        CHECK.sentence("it can be STOPPED, and goes on then");
        FlyTower tower = towerWithBarAt30(0, 0);
        States.bring(tower, 1, 26);
        nearOrNot(tower, 26, 30, true);
        tower.pass(1);
        CHECK.due("none while it is STOPPED", tower.many(11), 1);
        CHECK.due("stop(false)", tower.stop(false), true);
        tower.pass(3);
        CHECK.due("one more as it goes on, and STOPPED again", tower.many(11), 2);
        CHECK.due("ELAPSED", tower.many(7), 2);
        tower.end();
        int cue = tower.cue(-1);
        tower.move(cue, 0, 36, 6, 0);
        tower.go(cue);
        tower.pass(1);
        tower.go(2);
        CHECK.due("DONE, as the other one is away", tower.pass(1), 1);
    }
}
