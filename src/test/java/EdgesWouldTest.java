/** The boundary cases that the document names for promises 22 to 26, and for the object as a whole. */
public final class EdgesWouldTest {
    private static final Check CHECK = new Check();

    public static void main(String[] args) {
        secondsForNoCue();
        oneSecondWithoutMoves();
        oneSecondIfAllAreThere();
        delayCountsInSecondsFor();
        notWithin200();
        notWithin200ByWaiting();
        stoppedByThen();
        stoppedInTheLastSecond();
        inPlaceOfWhatRuns();
        wholeBrakesInSecondsFor();
        secondsForBeyond3000();
        followersDoNotCount();
        stopsAtNoCue();
        stopsAtNone();
        stopsAtTheFirstOne();
        stopsAtEachBar();
        stopsAtTheEndsOfADrop();
        stopsWithin200();
        stopsNotByWhatFollows();
        wholeBrakesInStopsAt();
        wouldHurtSeconds();
        wouldHurtFirstAndLastSecond();
        wouldHurtBeyond3000();
        wouldHurtIfAllWentOnSo();
        wouldHurtWithWhatFollows();
        wouldHurtNobodyWhereItIsKeptUp();
        fitsOfABitThatIsNoPiece();
        fitsWithoutAny();
        fitsByLimit();
        fitsByThickness();
        fitsFromEachFormerOne();
        fitsOnTheSmallestNumber();
        fitsIfOneCannot();
        fitsUpToAllBars();
        fitsAsIfNothingHung();
        digestOfANewOne();
        digestWrapsAround();
        digestOfEachState();
        wouldBeChangesNothing();
        allCallsOfAnObject();
        CHECK.end();
    }

    private static void refused(String what, Refusal.State state, Class<?> want, Refusal.Call call) {
        Refusal.due(CHECK, what, state, want, call);
    }

    // ---- promise 22

    private static void secondsForNoCue() {
        CHECK.sentence("IndexOutOfBoundsException if there is no such CUE");
        int[] wrong = {-1, 2, 6, Integer.MIN_VALUE, Integer.MAX_VALUE};
        for (int cue : wrong) {
            refused("secondsFor(" + cue + ")", States::running, Check.INDEX, t -> t.secondsFor(cue));
        }
        refused("secondsFor(6) of 6", States::full, Check.INDEX, t -> t.secondsFor(6));
        refused("secondsFor(0) of none", States::fresh, Check.INDEX, t -> t.secondsFor(0));
    }

    private static void oneSecondWithoutMoves() {
        CHECK.sentence("in how many seconds it would be over (1 without MOVES)");
        FlyTower tower = new FlyTower();
        for (int c = 0; c < 6; c++) {
            tower.cue(c);
            CHECK.due("secondsFor(" + c + ")", tower.secondsFor(c), 1);
        }
    }

    private static void oneSecondIfAllAreThere() {
        CHECK.sentence("in how many seconds it would be over");
        FlyTower tower = States.bars(1, 0);
        tower.counter(1, 11);
        tower.cue(-1);
        tower.move(0, 0, 0, 1, 0);
        CHECK.due("one that is there", tower.secondsFor(0), 1);
        tower.move(0, 1, 60, 1, 0);
        CHECK.due("one that would be REFUSED", tower.secondsFor(0), 1);
        tower.counter(1, 10);
        CHECK.due("one that would not", tower.secondsFor(0), 60);
    }

    private static void delayCountsInSecondsFor() {
        CHECK.sentence("in how many seconds it would be over (as by (1))");
        int[] delays = {0, 1, 20};
        for (int delay : delays) {
            FlyTower tower = States.bars(1);
            tower.cue(-1);
            tower.move(0, 0, 120, 6, delay);
            CHECK.due("by a DELAY of " + delay, tower.secondsFor(0), delay + 20);
            tower.go(0);
            tower.pass(delay + 19);
            CHECK.due("not over a second ahead", tower.many(5), 0);
            tower.pass(1);
            CHECK.due("over then", tower.many(5), -1);
        }
    }

    /** A CREW of 1 brings BAR 0 up in 120 seconds, and BAR 1 in so many behind that. */
    private static FlyTower oneBehindTheOther(int secondsOfTheOther) {
        FlyTower tower = States.bars(0, 0, 1);
        tower.crew(1);
        tower.cue(-1);
        tower.move(0, 0, 120, 1, 0);
        tower.move(0, 1, secondsOfTheOther, 1, 0);
        return tower;
    }

    private static void notWithin200() {
        CHECK.sentence("NONE, if not within 200");
        CHECK.due("199", oneBehindTheOther(79).secondsFor(0), 199);
        CHECK.due("200", oneBehindTheOther(80).secondsFor(0), 200);
        CHECK.due("201", oneBehindTheOther(81).secondsFor(0), -1);
        CHECK.due("240", oneBehindTheOther(120).secondsFor(0), -1);
    }

    private static void notWithin200ByWaiting() {
        CHECK.sentence("NONE, if not within 200");
        FlyTower tower = States.bars(0, 1);
        tower.cue(-1);
        tower.move(0, 0, 6, 6, 0);
        tower.cue(-1);
        tower.move(1, 1, 6, 6, 0);
        tower.crew(0);
        CHECK.due("without a CREW", tower.secondsFor(0), -1);
        CHECK.due("stopsAt() without a CREW", tower.stopsAt(0), -1);
        tower.below(1, true, false);
        CHECK.due("above PEOPLE", tower.secondsFor(1), -1);
        tower.below(1, true, true);
        CHECK.due("above PEOPLE, WATCHED", tower.secondsFor(1), 1);
    }

    /** BAR 0 with a MOTOR at 30, with a PIECE of THICKNESS 1, beside BAR 1 with a MOTOR. */
    private static FlyTower obstacleAt30() {
        FlyTower tower = States.bars(1, 1, 1);
        tower.piece(1, 0, 1);
        tower.hang(0, 0);
        States.bring(tower, 0, 30);
        return tower;
    }

    private static void stoppedByThen() {
        CHECK.sentence("NONE, if it was STOPPED by then");
        FlyTower tower = obstacleAt30();
        tower.cue(-1);
        tower.move(1, 1, 60, 5, 0);
        tower.cue(-1);
        tower.move(2, 1, 60, 4, 0);
        CHECK.due("STOPPED at 30", tower.secondsFor(1), -1);
        CHECK.due("past 30", tower.secondsFor(2), 15);
    }

    private static void stoppedInTheLastSecond() {
        CHECK.sentence("NONE, if it was STOPPED by then");
        FlyTower tower = obstacleAt30();
        tower.cue(-1);
        tower.move(1, 2, 30, 6, 0);
        tower.move(1, 1, 30, 6, 0);
        CHECK.due("STOPPED in the second in which all others are DONE", tower.secondsFor(1), -1);
        CHECK.due("by BAR 1", tower.stopsAt(1), 1);
    }

    private static void inPlaceOfWhatRuns() {
        CHECK.sentence("if it began now, in place of what RUNS");
        FlyTower tower = States.bars(1, 1);
        tower.cue(-1);
        tower.move(0, 0, 60, 1, 5);
        tower.cue(-1);
        tower.move(1, 0, 0, 1, 0);
        tower.move(1, 1, 60, 6, 20);
        tower.go(0);
        tower.pass(15);
        CHECK.due("the one that RUNS, anew", tower.secondsFor(0), 55);
        CHECK.due("another one, from where the BARS are", tower.secondsFor(1), 30);
        tower.stop(true);
        CHECK.due("the one that RUNS and is STOPPED, anew", tower.secondsFor(0), 55);
        CHECK.due("another one while it is STOPPED", tower.secondsFor(1), 30);
        CHECK.due("it RUNS", tower.many(5), 0);
        CHECK.due("it is STOPPED", tower.many(6), 1);
        CHECK.due("its ELAPSED", tower.many(7), 15);
    }

    private static void wholeBrakesInSecondsFor() {
        CHECK.sentence("with all BRAKES as if they were whole");
        FlyTower tower = States.bars(0);
        tower.counter(0, 10);
        tower.cue(-1);
        tower.move(0, 0, 60, 6, 20);
        tower.brake(0, true);
        CHECK.due("with a BROKEN BRAKE", tower.secondsFor(0), 30);
        CHECK.due("it is BROKEN still", tower.ofBar(0, 10), 1);
        CHECK.due("the set", tower.many(15), 1);
        tower.go(0);
        CHECK.due("as it goes, it is there earlier", tower.pass(27), 1);
    }

    private static void secondsForBeyond3000() {
        CHECK.sentence("(NOW may be above 3000 by that)");
        FlyTower tower = States.last();
        tower.cue(-1);
        tower.move(2, 2, 0, 1, 20);
        tower.below(2, false, true);
        CHECK.due("at 3000", tower.secondsFor(2), 140);
        CHECK.due("NOW", tower.many(0), 3000);
        CHECK.due("at 2999", States.lastButOne().secondsFor(1), 1);
    }

    private static void followersDoNotCount() {
        CHECK.sentence("in how many seconds it would be over");
        FlyTower tower = States.bars(1);
        tower.cue(1);
        tower.move(0, 0, 6, 6, 0);
        tower.cue(0);
        tower.move(1, 0, 120, 1, 0);
        CHECK.due("CUE 0, followed by 1", tower.secondsFor(0), 1);
        CHECK.due("CUE 1, followed by 0", tower.secondsFor(1), 120);
    }

    // ---- promise 23

    private static void stopsAtNoCue() {
        CHECK.sentence("IndexOutOfBoundsException if there is no such CUE");
        int[] wrong = {-1, 2, 6, Integer.MIN_VALUE, Integer.MAX_VALUE};
        for (int cue : wrong) {
            refused("stopsAt(" + cue + ")", States::running, Check.INDEX, t -> t.stopsAt(cue));
        }
        refused("stopsAt(6) of 6", States::full, Check.INDEX, t -> t.stopsAt(6));
        refused("stopsAt(0) of none", States::fresh, Check.INDEX, t -> t.stopsAt(0));
    }

    private static void stopsAtNone() {
        CHECK.sentence("NONE without one");
        FlyTower tower = obstacleAt30();
        tower.cue(-1);
        CHECK.due("without MOVES", tower.stopsAt(1), -1);
        tower.move(1, 1, 29, 6, 0);
        CHECK.due("up to 29", tower.stopsAt(1), -1);
        tower.cue(-1);
        tower.move(2, 1, 30, 6, 0);
        CHECK.due("up to 30", tower.stopsAt(2), 1);
        CHECK.due("up to 29 again", tower.stopsAt(1), -1);
    }

    private static void stopsAtTheFirstOne() {
        CHECK.sentence("the BAR that would be the first one to be kept back");
        FlyTower tower = States.bars(1, 1, 1, 1, 1);
        tower.piece(1, 0, 2);
        tower.hang(0, 2);
        States.bring(tower, 2, 30);
        tower.cue(-1);
        tower.move(1, 3, 60, 6, 1);
        tower.move(1, 1, 60, 6, 0);
        tower.cue(-1);
        tower.move(2, 4, 60, 6, 0);
        tower.move(2, 0, 60, 6, 0);
        tower.cue(-1);
        tower.move(3, 0, 60, 6, 0);
        tower.move(3, 4, 60, 6, 0);
        CHECK.due("the earlier second", tower.stopsAt(1), 1);
        CHECK.due("the earlier MOVE", tower.stopsAt(2), 4);
        CHECK.due("the earlier MOVE, told the other way", tower.stopsAt(3), 0);
        CHECK.due("near ones ever", tower.many(11), 0);
    }

    private static void stopsAtEachBar() {
        CHECK.sentence("Returns the BAR (0 to 7), or NONE");
        for (int bar = 0; bar < 8; bar++) {
            FlyTower tower = States.bars(1, 1, 1, 1, 1, 1, 1, 1);
            int other = bar == 7 ? 6 : bar + 1;
            tower.piece(1, 0, 1);
            tower.hang(0, other);
            States.bring(tower, other, 6);
            tower.cue(-1);
            tower.move(1, bar, 6, 6, 0);
            CHECK.due("stopsAt() of BAR " + bar, tower.stopsAt(1), bar);
        }
    }

    private static void stopsAtTheEndsOfADrop() {
        CHECK.sentence("A BAR fills heights from HEIGHT less DEEP to HEIGHT.");
        FlyTower tower = States.bars(1, 1);
        tower.piece(1, 3, 1);
        tower.hang(0, 0);
        States.bring(tower, 0, 30);
        States.bring(tower, 1, 26);
        int[] targets = {26, 27, 30, 31};
        for (int i = 0; i < targets.length; i++) {
            int cue = tower.cue(-1);
            tower.move(cue, 1, targets[i], 6, 0);
            boolean isNear = targets[i] == 27 || targets[i] == 30;
            CHECK.due("stopsAt() from 26 to " + targets[i], tower.stopsAt(cue), isNear ? 1 : -1);
            CHECK.due("secondsFor() from 26 to " + targets[i], tower.secondsFor(cue), isNear ? -1 : 1);
        }
    }

    private static void stopsWithin200() {
        CHECK.sentence("NONE without one within 200");
        for (int height = 79; height <= 82; height++) {
            FlyTower tower = oneBehindTheOther(100);
            tower.piece(1, 0, 1);
            tower.hang(0, 2);
            States.bring(tower, 2, height);
            CHECK.due("kept back in second " + (120 + height), tower.stopsAt(0), height <= 80 ? 1 : -1);
            CHECK.due("secondsFor() that", tower.secondsFor(0), -1);
        }
    }

    private static void stopsNotByWhatFollows() {
        CHECK.sentence("(till that CUE is over; what FOLLOWS does not count)");
        FlyTower tower = obstacleAt30();
        tower.cue(2);
        tower.move(1, 1, 24, 6, 0);
        tower.cue(-1);
        tower.move(2, 1, 30, 6, 0);
        CHECK.due("stopsAt() ahead of one that would be", tower.stopsAt(1), -1);
        CHECK.due("stopsAt() of that itself", tower.stopsAt(2), 1);
    }

    private static void wholeBrakesInStopsAt() {
        CHECK.sentence("as with secondsFor(): with all BRAKES as if they were whole, in place of what RUNS");
        FlyTower tower = States.bars(0, 1);
        tower.piece(1, 0, 1);
        tower.hang(0, 0);
        tower.counter(0, 11);
        tower.cue(-1);
        tower.move(0, 1, 36, 6, 0);
        tower.cue(-1);
        tower.brake(0, true);
        tower.pass(30);
        CHECK.due("from below BAR 0 at 30, as if it stayed", tower.stopsAt(0), 1);
        tower.pass(1);
        CHECK.due("from below BAR 0 at 31, as if it stayed", tower.stopsAt(0), -1);
        tower.go(1);
        tower.stop(true);
        CHECK.due("while another one RUNS and is STOPPED", tower.stopsAt(0), -1);
        CHECK.due("near ones ever", tower.many(11), 0);
        CHECK.due("STOPPED still", tower.many(6), 1);
    }

    // ---- promise 24

    private static void wouldHurtSeconds() {
        CHECK.sentence("IllegalArgumentException if seconds is not 1 to 60");
        int[] wrong = {0, 61, -1, Integer.MIN_VALUE, Integer.MAX_VALUE};
        for (int seconds : wrong) {
            refused("wouldHurt(" + seconds + ")", States::running, Check.ARGUMENT, t -> t.wouldHurt(seconds));
            refused("wouldHurt(" + seconds + ") of a new one", States::fresh, Check.ARGUMENT, t -> t.wouldHurt(seconds));
        }
        CHECK.due("wouldHurt(1) of a new one", new FlyTower().wouldHurt(1), 0);
        CHECK.due("wouldHurt(60) of a new one", new FlyTower().wouldHurt(60), 0);
    }

    /** BAR 0 by HAND at a HEIGHT above PEOPLE, with a BROKEN BRAKE: it sinks by 1 in a second. */
    private static FlyTower sinking(int height) {
        FlyTower tower = States.bars(0);
        tower.piece(10, 0, 0);
        tower.hang(0, 0);
        States.bring(tower, 0, height);
        tower.below(0, true, true);
        tower.brake(0, true);
        return tower;
    }

    private static void wouldHurtFirstAndLastSecond() {
        CHECK.sentence("how often somebody would be HURT in them");
        CHECK.due("in the first second, at 21", sinking(21).wouldHurt(1), 1);
        CHECK.due("in the first second, at 22", sinking(22).wouldHurt(1), 0);
        CHECK.due("in the last second of 60", sinking(80).wouldHurt(60), 1);
        CHECK.due("not in the last second of 59", sinking(80).wouldHurt(59), 0);
        CHECK.due("not in the last second of 60", sinking(81).wouldHurt(60), 0);
        CHECK.due("down to 0", sinking(20).wouldHurt(60), 20);
        FlyTower tower = sinking(20);
        tower.pass(5);
        CHECK.due("HURT so far do not count", tower.wouldHurt(60), 15);
        CHECK.due("HURT so far", tower.many(13), 5);
    }

    private static void wouldHurtBeyond3000() {
        CHECK.sentence("(NOW may be above 3000 by that)");
        FlyTower tower = sinking(20);
        tower.brake(0, false);
        States.passUpTo(tower, 3000);
        tower.brake(0, true);
        CHECK.due("at 3000", tower.wouldHurt(60), 20);
        CHECK.due("NOW", tower.many(0), 3000);
    }

    private static void wouldHurtIfAllWentOnSo() {
        CHECK.sentence("if all went on so");
        FlyTower tower = sinking(20);
        int cue = tower.cue(-1);
        tower.move(cue, 0, 120, 1, 2);
        CHECK.due("no CUE RUNS", tower.wouldHurt(10), 10);
        tower.go(cue);
        CHECK.due("while its MOVE waits", tower.wouldHurt(10), 2);
        tower.stop(true);
        CHECK.due("while it is STOPPED", tower.wouldHurt(10), 10);
        tower.stop(false);
        tower.crew(0);
        CHECK.due("without a CREW", tower.wouldHurt(10), 10);
        tower.crew(1);
        tower.below(0, true, false);
        CHECK.due("not WATCHED", tower.wouldHurt(10), 10);
        tower.below(0, false, false);
        CHECK.due("without PEOPLE", tower.wouldHurt(10), 0);
        tower.below(0, true, true);
        tower.brake(0, false);
        CHECK.due("with a whole BRAKE", tower.wouldHurt(10), 0);
    }

    private static void wouldHurtWithWhatFollows() {
        CHECK.sentence("if all went on so");
        FlyTower tower = sinking(20);
        int cue = tower.cue(2);
        tower.move(cue, 0, 6, 6, 1);
        tower.cue(-1);
        tower.move(2, 0, 12, 6, 2);
        tower.go(cue);
        // It waits (19), goes down to 13, 7, 6; then 2 waits (5, 4), goes up to 10, 12; then none RUNS (11, 10).
        int[] due = {1, 1, 1, 1, 2, 3, 3, 3, 4, 5};
        for (int seconds = 1; seconds <= due.length; seconds++) {
            CHECK.due("wouldHurt(" + seconds + ")", tower.wouldHurt(seconds), due[seconds - 1]);
        }
        tower.pass(10);
        CHECK.due("HURT then", tower.many(13), 5);
    }

    private static void wouldHurtNobodyWhereItIsKeptUp() {
        CHECK.sentence("how often somebody would be HURT in them");
        FlyTower tower = States.bars(0, 1);
        tower.piece(10, 5, 1);
        tower.hang(0, 0);
        States.bring(tower, 0, 12);
        States.bring(tower, 1, 4);
        tower.below(0, true, true);
        tower.brake(0, true);
        CHECK.due("from 12 to 10, as its DROP ends above BAR 1 at 4", tower.wouldHurt(60), 2);
        tower.pass(60);
        CHECK.due("HURT then", tower.many(13), 2);
        CHECK.due("HEIGHT then", tower.ofBar(0, 2), 10);
    }

    // ---- promise 25

    private static void fitsOfABitThatIsNoPiece() {
        CHECK.sentence("IllegalArgumentException if pieces has a bit that is no PIECE");
        int[] wrong = {16, 17, 31, 1 << 10, 1 << 30, Integer.MIN_VALUE, -1, Integer.MAX_VALUE, Integer.MIN_VALUE + 1};
        for (int set : wrong) {
            refused("fits(" + set + ") of 4", States::running, Check.ARGUMENT, t -> t.fits(set));
        }
        refused("fits(1024) of 10", States::full, Check.ARGUMENT, t -> t.fits(1024));
        refused("fits(2047) of 10", States::full, Check.ARGUMENT, t -> t.fits(2047));
        refused("fits(1) of none", States::fresh, Check.ARGUMENT, t -> t.fits(1));
        refused("the last bit of none", States::fresh, Check.ARGUMENT, t -> t.fits(Integer.MIN_VALUE));
        CHECK.due("fits(8) of 4", States.running().fits(8), 1);
        CHECK.due("fits(512) of 10", States.full().fits(512), 1);
    }

    private static void fitsWithoutAny() {
        CHECK.sentence("0 if one cannot (and without any)");
        CHECK.due("fits(0) of a new one", new FlyTower().fits(0), 0);
        CHECK.due("fits(0) of a full one", States.full().fits(0), 0);
        FlyTower noBars = new FlyTower();
        noBars.piece(1, 0, 0);
        CHECK.due("fits(1) without BARS", noBars.fits(1), 0);
    }

    private static void fitsByLimit() {
        CHECK.sentence("each WEIGHT no more than LIMIT");
        FlyTower tower = new FlyTower();
        tower.bar(false, 10);
        tower.bar(true, 11);
        tower.bar(false, 89);
        tower.bar(true, 90);
        int[] weights = {10, 11, 12, 89, 90};
        int[] due = {1, 2, 4, 4, 8};
        for (int p = 0; p < weights.length; p++) {
            tower.piece(weights[p], 0, 0);
            CHECK.due("WEIGHT " + weights[p], tower.fits(1 << p), due[p]);
        }
    }

    private static void fitsByThickness() {
        CHECK.sentence("from each former one further than the THICKNESS of both together");
        for (int one = 0; one <= 2; one++) {
            for (int other = 0; other <= 2; other++) {
                for (int count = 1; count <= 7; count++) {
                    FlyTower tower = States.bars(new int[count]);
                    tower.piece(1, 0, one);
                    tower.piece(1, 0, other);
                    int apart = one + other + 1;
                    CHECK.due("THICKNESS " + one + " and " + other + " on " + count + " BARS", tower.fits(3),
                        apart < count ? 1 + (1 << apart) : 0);
                }
            }
        }
    }

    private static void fitsFromEachFormerOne() {
        CHECK.sentence("from each former one");
        FlyTower tower = States.bars(0, 0, 0, 0, 0, 0, 0, 0);
        int[] thicknesses = {2, 0, 2, 0};
        for (int thickness : thicknesses) {
            tower.piece(1, 0, thickness);
        }
        CHECK.due("2, 0, 2: the last from both", tower.fits(7), 1 + 8 + 64);
        CHECK.due("2, 2: alone", tower.fits(5), 1 + 32);
        CHECK.due("2, 0, 0", tower.fits(11), 1 + 8 + 16);
        FlyTower near = new FlyTower();
        near.bar(false, 10);
        near.bar(false, 10);
        near.bar(false, 90);
        near.bar(false, 90);
        near.bar(false, 90);
        near.piece(10, 0, 2);
        near.piece(10, 0, 0);
        near.piece(11, 0, 2);
        CHECK.due("too near to the first, though not to the second", near.fits(7), 0);
        near.bar(false, 90);
        CHECK.due("2, 2 with one BAR more", near.fits(5), 1 + 32);
        CHECK.due("2, 0, 2 with one BAR more", near.fits(7), 0);
        near.bar(false, 90);
        CHECK.due("2, 0, 2 with two more", near.fits(7), 1 + 8 + 64);
    }

    private static void fitsOnTheSmallestNumber() {
        CHECK.sentence("PIECE by PIECE on the smallest number that can be, behind the former ones");
        FlyTower tower = new FlyTower();
        int[] limits = {20, 90, 20, 90, 20};
        for (int limit : limits) {
            tower.bar(true, limit);
        }
        tower.piece(50, 0, 0);
        tower.piece(20, 0, 0);
        tower.piece(50, 0, 0);
        CHECK.due("the first alone", tower.fits(1), 2);
        CHECK.due("the second alone", tower.fits(2), 1);
        CHECK.due("the second behind the first, not in front of it", tower.fits(3), 2 + 4);
        CHECK.due("the third behind the second", tower.fits(6), 1 + 2);
        CHECK.due("the third behind the first", tower.fits(5), 2 + 8);
        CHECK.due("all three", tower.fits(7), 2 + 4 + 8);
    }

    private static void fitsIfOneCannot() {
        CHECK.sentence("0 if one cannot");
        FlyTower tower = new FlyTower();
        tower.bar(true, 89);
        tower.bar(true, 20);
        tower.piece(90, 0, 0);
        tower.piece(20, 0, 0);
        tower.piece(21, 0, 0);
        CHECK.due("too heavy for each", tower.fits(1), 0);
        CHECK.due("the first one is too heavy", tower.fits(3), 0);
        CHECK.due("the last one has no place behind the former", tower.fits(6), 0);
        CHECK.due("one that can", tower.fits(4), 1);
    }

    private static void fitsUpToAllBars() {
        CHECK.sentence("the set of BARS on which they could hang, one on each");
        FlyTower tower = States.bars(0, 1, 0, 1, 0, 1, 0, 1);
        for (int p = 0; p < 10; p++) {
            tower.piece(10 + p, 0, 0);
        }
        CHECK.due("8 on 8", tower.fits(255), 255);
        CHECK.due("the last 8 on 8", tower.fits(1023 - 3), 255);
        CHECK.due("9 on 8", tower.fits(511), 0);
        CHECK.due("10 on 8", tower.fits(1023), 0);
        CHECK.due("first and last", tower.fits(513), 3);
    }

    private static void fitsAsIfNothingHung() {
        CHECK.sentence("if nothing else hung anywhere");
        FlyTower tower = States.bars(0, 0);
        for (int p = 0; p < 4; p++) {
            tower.piece(90, 60, 2);
        }
        tower.hang(0, 0);
        tower.hang(1, 0);
        tower.hang(2, 0);
        CHECK.due("where the LOAD is 270 of 300", tower.fits(8), 1);
        CHECK.due("of one that hangs", tower.fits(1), 1);
        States.bring(tower, 1, 12);
        tower.go(0);
        CHECK.due("above 0 and while a CUE RUNS", tower.fits(8), 1);
    }

    // ---- promise 26

    private static void digestOfANewOne() {
        CHECK.sentence("A number d starts with 9111");
        long d = 9111;
        int[] answers = {0, 0, 0, 0, 2, -1, 0, 0, 0, 0, 0, 0, 0, 0, 0, 0, 0, 0};
        for (int v : answers) {
            d = d * 31 + v;
        }
        CHECK.due("digest()", new FlyTower().digest(), d);
    }

    private static void digestWrapsAround() {
        CHECK.sentence("d becomes d * 31 + v, which wraps around as a 64-bit integer");
        FlyTower tower = States.bars(0, 1);
        java.math.BigInteger d = java.math.BigInteger.valueOf(9111);
        int[] answers = {0, 2, 0, 0, 2, -1, 0, 0, 0, 0, 0, 0, 0, 0, 0, 0,
            0, 300, 0, 0, 0, 0, 0, 0, 0, 1, 0, 0, 1, 300, 0, 0, 0, 0, 0, 0, 0, 1, 0, 0, 0, 0};
        for (int v : answers) {
            d = d.multiply(java.math.BigInteger.valueOf(31)).add(java.math.BigInteger.valueOf(v));
        }
        CHECK.due("digest()", tower.digest(), d.longValue());
    }

    private static void digestOfEachState() {
        CHECK.sentence("for each v in this order: many(), BARS, PIECES, CUES, wouldHurt() of 9; fits() of all PIECES");
        FlyTower[] towers = {States.fresh(), States.resting(), States.running(), States.stopped(), States.high(),
            States.full(), States.last(), obstacleAt30(), oneBehindTheOther(80), sinking(29), sinking(30)};
        for (int i = 0; i < towers.length; i++) {
            CHECK.due("digest() of tower " + i, towers[i].digest(), Digest.of(towers[i]));
        }
        CHECK.due("HURT in 9", sinking(29).wouldHurt(9), 1);
        CHECK.due("not HURT in 9", sinking(30).wouldHurt(9), 0);
    }

    private static void wouldBeChangesNothing() {
        CHECK.sentence("---- what would be (nothing is changed).");
        Refusal.State[] states = {States::resting, States::running, States::stopped, States::high, States::full};
        for (int i = 0; i < states.length; i++) {
            Refusal.unchanged(CHECK, "what would be on tower " + i, states[i], t -> {
                t.secondsFor(0);
                t.stopsAt(1);
                t.secondsFor(1);
                t.wouldHurt(60);
                t.fits(7);
                t.stopsAt(0);
                return t.digest();
            });
        }
    }

    private static void allCallsOfAnObject() {
        CHECK.sentence("An object is used for at most 512 calls after it has been made");
        FlyTower tower = new FlyTower();
        for (int call = 1; call <= 511; call++) {
            tower.digest();
        }
        CHECK.due("the 512th call", tower.digest(), -8745273721740748652L);
        FlyTower full = States.full();
        long d = full.digest();
        for (int call = 1; call <= 440; call++) {
            CHECK.due("the same answer each time", full.digest(), d);
        }
    }
}
