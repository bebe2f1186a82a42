/** The boundary cases that the document names for promises 8 to 15, sentence by sentence. */
public final class EdgesDoneTest {
    private static final Check CHECK = new Check();

    public static void main(String[] args) {
        hangNoPieceOrBar();
        hangOutOfTheStoreAlone();
        hangWhileACueRuns();
        hangAtHeightZeroAlone();
        hangUpToTheLimit();
        hangIndexAheadOfState();
        loadDeepAndWide();
        takeNoPiece();
        takeOutOfTheStore();
        takeWhileACueRuns();
        takeAtHeightZeroAlone();
        takeLeavesNone();
        counterOfNoBar();
        counters();
        counterOfAMotor();
        counterWhileACueRuns();
        counterAtHeightZeroAlone();
        counterFirstNamed();
        goOfNoCue();
        goWhileOneRuns();
        goAnswersHowManyMoves();
        goBeginsAnew();
        stopWithoutACue();
        stopAnswersWhetherItWas();
        stoppedGoesOn();
        endWithoutACue();
        endAnswersTheOpenOnes();
        endLetsNothingFollow();
        brakeOfNoBar();
        brakeAnswersWhetherItWas();
        secondsToPass();
        passUpTo3000();
        passFirstNamed();
        passAnswersTheDoneOnes();
        CHECK.end();
    }

    private static void refused(String what, Refusal.State state, Class<?> want, Refusal.Call call) {
        Refusal.due(CHECK, what, state, want, call);
    }

    // ---- promise 8

    private static void hangNoPieceOrBar() {
        CHECK.sentence("IndexOutOfBoundsException if there is no such PIECE, or BAR");
        int[] noPiece = {-1, 4, 10, Integer.MIN_VALUE, Integer.MAX_VALUE};
        for (int piece : noPiece) {
            refused("hang(" + piece + ", 0)", States::resting, Check.INDEX, t -> t.hang(piece, 0));
        }
        int[] noBar = {-1, 3, 8, Integer.MIN_VALUE, Integer.MAX_VALUE};
        for (int bar : noBar) {
            refused("hang(1, " + bar + ")", States::resting, Check.INDEX, t -> t.hang(1, bar));
        }
        refused("hang(10, 0) of 10", States::full, Check.INDEX, t -> t.hang(10, 0));
        refused("hang(0, 8) of 8", States::full, Check.INDEX, t -> t.hang(0, 8));
        refused("hang(0, 0) of none", States::fresh, Check.INDEX, t -> t.hang(0, 0));
        CHECK.due("the last PIECE on the last BAR", fullWithEmptyHands().hang(9, 7), 10);
    }

    private static FlyTower fullWithEmptyHands() {
        FlyTower tower = States.full();
        tower.take(9);
        tower.take(1);
        return tower;
    }

    private static void hangOutOfTheStoreAlone() {
        CHECK.sentence("IllegalStateException if it is not in the STORE");
        refused("on another BAR", States::resting, Check.STATE, t -> t.hang(3, 0));
        refused("on the same BAR", States::resting, Check.STATE, t -> t.hang(3, 1));
        FlyTower tower = States.resting();
        tower.take(3);
        CHECK.due("in the STORE again", tower.hang(3, 0), 65);
        CHECK.due("its BAR", tower.ofPiece(3, 3), 0);
        CHECK.due("LOAD of the former BAR", tower.ofBar(1, 4), 0);
    }

    private static void hangWhileACueRuns() {
        CHECK.sentence("IllegalStateException if a CUE RUNS");
        refused("it RUNS", States::running, Check.STATE, t -> t.hang(1, 1));
        refused("it RUNS, and is STOPPED", States::stopped, Check.STATE, t -> t.hang(1, 1));
        CHECK.due("it RUNS no more", States.high().hang(1, 1), 45);
        FlyTower without = States.bars(1);
        without.piece(7, 0, 0);
        without.cue(-1);
        without.go(0);
        CHECK.dueThrow("a CUE without MOVES RUNS", without, Check.STATE, () -> without.hang(0, 0));
        without.pass(1);
        CHECK.due("it is over", without.hang(0, 0), 7);
    }

    private static void hangAtHeightZeroAlone() {
        CHECK.sentence("IllegalStateException if HEIGHT is above 0");
        FlyTower tower = States.bars(1, 1);
        tower.piece(7, 0, 0);
        States.bring(tower, 0, 1);
        CHECK.dueThrow("at 1", tower, Check.STATE, () -> tower.hang(0, 0));
        States.bring(tower, 0, 120);
        CHECK.dueThrow("at 120", tower, Check.STATE, () -> tower.hang(0, 0));
        States.bring(tower, 0, 0);
        CHECK.due("at 0 again", tower.hang(0, 0), 7);
        refused("a BAR that ran away by 1", States::high, Check.STATE, t -> t.hang(1, 2));
    }

    private static void hangUpToTheLimit() {
        CHECK.sentence("IllegalStateException if LOAD would be above LIMIT");
        FlyTower tower = States.resting();
        CHECK.dueThrow("LOAD 101 of 100", tower, Check.STATE, () -> tower.hang(2, 0));
        CHECK.due("LOAD 100 of 100", tower.hang(1, 0), 100);
        tower.piece(1, 0, 0);
        CHECK.dueThrow("LOAD 101 of 100, by 1", tower, Check.STATE, () -> tower.hang(4, 0));
        FlyTower least = new FlyTower();
        least.bar(true, 10);
        least.piece(11, 0, 0);
        least.piece(10, 0, 0);
        CHECK.dueThrow("LOAD 11 of 10, with a MOTOR", least, Check.STATE, () -> least.hang(0, 0));
        CHECK.due("LOAD 10 of 10, with a MOTOR", least.hang(1, 0), 10);
        FlyTower most = States.bars(0);
        int[] weights = {90, 90, 90, 30, 1};
        for (int p = 0; p < 4; p++) {
            most.piece(weights[p], 0, 0);
            most.hang(p, 0);
        }
        most.piece(1, 0, 0);
        CHECK.due("LOAD 300 of 300", most.ofBar(0, 4), 300);
        CHECK.dueThrow("LOAD 301 of 300", most, Check.STATE, () -> most.hang(4, 0));
        most.counter(0, 300);
        CHECK.dueThrow("LOAD 301 of 300, with a COUNTER", most, Check.STATE, () -> most.hang(4, 0));
    }

    private static void hangIndexAheadOfState() {
        CHECK.sentence("If several exceptions apply, the one that is named first is thrown.");
        int[] wrong = {-1, 10};
        for (int number : wrong) {
            refused("no PIECE, a BAR above 0", States::high, Check.INDEX, t -> t.hang(number, 0));
            refused("no PIECE while a CUE RUNS", States::running, Check.INDEX, t -> t.hang(number, 1));
            refused("a hung PIECE, no BAR", States::resting, Check.INDEX, t -> t.hang(0, number));
            refused("no BAR while a CUE RUNS", States::running, Check.INDEX, t -> t.hang(1, number));
            refused("neither", States::running, Check.INDEX, t -> t.hang(number, number));
        }
    }

    private static void loadDeepAndWide() {
        CHECK.sentence("LOAD is the WEIGHT of all PIECES on it; DEEP their greatest DROP, WIDE their greatest THICKNESS");
        FlyTower tower = States.bars(0);
        tower.piece(1, 60, 0);
        tower.piece(90, 0, 2);
        tower.piece(30, 30, 1);
        int[][] due = {{1, 60, 0}, {91, 60, 2}, {121, 60, 2}};
        for (int p = 0; p < 3; p++) {
            CHECK.due("hang", tower.hang(p, 0), due[p][0]);
            CHECK.due("LOAD", tower.ofBar(0, 4), due[p][0]);
            CHECK.due("DEEP", tower.ofBar(0, 5), due[p][1]);
            CHECK.due("WIDE", tower.ofBar(0, 6), due[p][2]);
            CHECK.due("DIFFERENCE", tower.ofBar(0, 7), due[p][0]);
        }
    }

    // ---- promise 9

    private static void takeNoPiece() {
        CHECK.sentence("IndexOutOfBoundsException if there is no such PIECE");
        int[] wrong = {-1, 4, 10, Integer.MIN_VALUE, Integer.MAX_VALUE};
        for (int piece : wrong) {
            refused("take(" + piece + ")", States::resting, Check.INDEX, t -> t.take(piece));
            refused("take(" + piece + ") while a CUE RUNS", States::running, Check.INDEX, t -> t.take(piece));
        }
        refused("take(10) of 10", States::full, Check.INDEX, t -> t.take(10));
        refused("take(0) of none", States::fresh, Check.INDEX, t -> t.take(0));
        CHECK.due("take(9) of 10", States.full().take(9), 0);
    }

    private static void takeOutOfTheStore() {
        CHECK.sentence("IllegalStateException if it is in the STORE");
        refused("never hung", States::resting, Check.STATE, t -> t.take(1));
        FlyTower tower = States.resting();
        tower.take(0);
        CHECK.dueThrow("taken already", tower, Check.STATE, () -> tower.take(0));
    }

    private static void takeWhileACueRuns() {
        CHECK.sentence("IllegalStateException if a CUE RUNS");
        refused("it RUNS", States::running, Check.STATE, t -> t.take(3));
        refused("it RUNS, and is STOPPED", States::stopped, Check.STATE, t -> t.take(3));
        CHECK.due("it RUNS no more", States.high().take(3), 1);
    }

    private static void takeAtHeightZeroAlone() {
        CHECK.sentence("IllegalStateException if HEIGHT is above 0");
        FlyTower tower = States.bars(1);
        tower.piece(7, 0, 0);
        tower.hang(0, 0);
        States.bring(tower, 0, 1);
        CHECK.dueThrow("at 1", tower, Check.STATE, () -> tower.take(0));
        States.bring(tower, 0, 120);
        CHECK.dueThrow("at 120", tower, Check.STATE, () -> tower.take(0));
        States.bring(tower, 0, 0);
        CHECK.due("at 0 again", tower.take(0), 0);
    }

    private static void takeLeavesNone() {
        CHECK.sentence("LOAD, DEEP, WIDE: 0 without any; the greatest of those that are left");
        FlyTower tower = States.bars(0);
        tower.piece(5, 9, 1);
        tower.piece(90, 60, 2);
        tower.hang(0, 0);
        tower.hang(1, 0);
        CHECK.due("take(1)", tower.take(1), 0);
        int[] left = {5, 9, 1, 5};
        for (int what = 4; what < 8; what++) {
            CHECK.due("ofBar(0, " + what + ") with one left", tower.ofBar(0, what), left[what - 4]);
        }
        CHECK.due("its BAR", tower.ofPiece(1, 3), -1);
        CHECK.due("take(0)", tower.take(0), 0);
        for (int what = 4; what < 8; what++) {
            CHECK.due("ofBar(0, " + what + ") without any", tower.ofBar(0, what), 0);
        }
    }

    // ---- promise 10

    private static void counterOfNoBar() {
        CHECK.sentence("IndexOutOfBoundsException if there is no such BAR");
        int[] wrong = {-1, 3, 8, Integer.MIN_VALUE, Integer.MAX_VALUE};
        for (int bar : wrong) {
            refused("counter(" + bar + ", 0)", States::resting, Check.INDEX, t -> t.counter(bar, 0));
        }
        refused("counter(8, 0) of 8", States::full, Check.INDEX, t -> t.counter(8, 0));
        refused("counter(0, 0) of none", States::fresh, Check.INDEX, t -> t.counter(0, 0));
    }

    private static void counters() {
        CHECK.sentence("IllegalArgumentException if counter is not 0 to 300. Returns the DIFFERENCE then.");
        FlyTower tower = States.resting();
        CHECK.due("counter(0, 300)", tower.counter(0, 300), -240);
        CHECK.due("COUNTER", tower.ofBar(0, 3), 300);
        CHECK.due("counter(0, 0)", tower.counter(0, 0), 60);
        CHECK.due("COUNTER", tower.ofBar(0, 3), 0);
        CHECK.due("counter(0, 60)", tower.counter(0, 60), 0);
        int[] wrong = {-1, 301, Integer.MIN_VALUE, Integer.MAX_VALUE};
        for (int counter : wrong) {
            refused("counter(0, " + counter + ")", States::resting, Check.ARGUMENT, t -> t.counter(0, counter));
        }
    }

    private static void counterOfAMotor() {
        CHECK.sentence("IllegalStateException if it has a MOTOR");
        refused("counter(1, 5)", States::resting, Check.STATE, t -> t.counter(1, 5));
        refused("counter(1, 0), which it is", States::resting, Check.STATE, t -> t.counter(1, 0));
        CHECK.due("COUNTER with a MOTOR", States.resting().ofBar(1, 3), 0);
        CHECK.due("DIFFERENCE with a MOTOR", States.resting().ofBar(1, 7), 0);
    }

    private static void counterWhileACueRuns() {
        CHECK.sentence("IllegalStateException if a CUE RUNS");
        FlyTower tower = States.bars(0);
        tower.cue(-1);
        tower.go(0);
        CHECK.dueThrow("it RUNS", tower, Check.STATE, () -> tower.counter(0, 5));
        tower.stop(true);
        CHECK.dueThrow("it RUNS, and is STOPPED", tower, Check.STATE, () -> tower.counter(0, 5));
        tower.end();
        CHECK.due("it RUNS no more", tower.counter(0, 5), -5);
    }

    private static void counterAtHeightZeroAlone() {
        CHECK.sentence("IllegalStateException if HEIGHT is above 0");
        FlyTower tower = States.bars(0);
        States.bring(tower, 0, 1);
        CHECK.dueThrow("at 1", tower, Check.STATE, () -> tower.counter(0, 5));
        States.bring(tower, 0, 0);
        CHECK.due("at 0 again", tower.counter(0, 5), -5);
    }

    private static void counterFirstNamed() {
        CHECK.sentence("If several exceptions apply, the one that is named first is thrown.");
        refused("no BAR, 301", States::resting, Check.INDEX, t -> t.counter(3, 301));
        refused("no BAR while a CUE RUNS", States::running, Check.INDEX, t -> t.counter(-1, 0));
        refused("a MOTOR, 301", States::resting, Check.ARGUMENT, t -> t.counter(1, 301));
        refused("a CUE RUNS, -1", States::running, Check.ARGUMENT, t -> t.counter(0, -1));
        refused("above 0, 301", States::high, Check.ARGUMENT, t -> t.counter(0, 301));
    }

    // ---- promise 11

    private static void goOfNoCue() {
        CHECK.sentence("IndexOutOfBoundsException if there is no such CUE");
        int[] wrong = {-1, 2, 6, Integer.MIN_VALUE, Integer.MAX_VALUE};
        for (int cue : wrong) {
            refused("go(" + cue + ")", States::resting, Check.INDEX, t -> t.go(cue));
            refused("go(" + cue + ") while one RUNS", States::running, Check.INDEX, t -> t.go(cue));
        }
        refused("go(6) of 6", States::full, Check.INDEX, t -> t.go(6));
        refused("go(0) of none", States::fresh, Check.INDEX, t -> t.go(0));
        CHECK.due("go(5) of 6", States.full().go(5), 6);
    }

    private static void goWhileOneRuns() {
        CHECK.sentence("IllegalStateException if one RUNS");
        refused("another one", States::running, Check.STATE, t -> t.go(1));
        refused("the same", States::running, Check.STATE, t -> t.go(0));
        refused("another one while it is STOPPED", States::stopped, Check.STATE, t -> t.go(1));
        refused("the same while it is STOPPED", States::stopped, Check.STATE, t -> t.go(0));
        CHECK.due("it RUNS no more", States.high().go(1), 1);
    }

    private static void goAnswersHowManyMoves() {
        CHECK.sentence("Returns how many MOVES it has.");
        FlyTower tower = States.bars(1, 1, 1, 1, 1, 1);
        for (int c = 0; c < 6; c++) {
            tower.cue(-1);
            for (int m = 0; m <= c; m++) {
                tower.move(c, m, 0, 1, 0);
            }
        }
        for (int c = 0; c < 6; c++) {
            CHECK.due("go(" + c + ")", tower.go(c), c + 1);
            tower.end();
        }
        FlyTower without = new FlyTower();
        without.cue(-1);
        CHECK.due("go() without MOVES", without.go(0), 0);
        CHECK.due("it RUNS without MOVES", without.many(5), 0);
    }

    private static void goBeginsAnew() {
        CHECK.sentence("As it begins, all its MOVES are open, ELAPSED is 0, and it is not STOPPED.");
        FlyTower tower = States.bars(0, 0, 1);
        tower.counter(0, 11);
        tower.crew(0);
        tower.cue(-1);
        tower.move(0, 0, 9, 1, 0);
        tower.move(0, 1, 9, 1, 0);
        tower.move(0, 2, 2, 1, 0);
        tower.go(0);
        tower.pass(3);
        tower.stop(true);
        int[] states = {2, 0, 1};
        int[] lates = {0, 3, 0};
        for (int m = 0; m < 3; m++) {
            CHECK.due("ahead of it, MOVE " + m, tower.ofMove(0, m, 4), states[m]);
            CHECK.due("ahead of it, LATE of " + m, tower.ofMove(0, m, 5), lates[m]);
        }
        tower.end();
        tower.go(0);
        for (int m = 0; m < 3; m++) {
            CHECK.due("MOVE " + m, tower.ofMove(0, m, 4), 0);
            CHECK.due("LATE of " + m, tower.ofMove(0, m, 5), 0);
        }
        CHECK.due("ELAPSED", tower.many(7), 0);
        CHECK.due("STOPPED", tower.many(6), 0);
        CHECK.due("open", tower.many(8), 3);
    }

    // ---- promise 12

    private static void stopWithoutACue() {
        CHECK.sentence("IllegalStateException if none RUNS");
        refused("stop(true) of a new one", States::fresh, Check.STATE, t -> t.stop(true));
        refused("stop(false) of a new one", States::fresh, Check.STATE, t -> t.stop(false));
        refused("stop(true) behind end()", States::high, Check.STATE, t -> t.stop(true));
        refused("stop(false) behind end()", States::high, Check.STATE, t -> t.stop(false));
        FlyTower tower = new FlyTower();
        tower.cue(-1);
        tower.go(0);
        CHECK.due("as it has begun", tower.stop(true), false);
        tower.pass(1);
        CHECK.dueThrow("as it is over", tower, Check.STATE, () -> tower.stop(false));
    }

    private static void stopAnswersWhetherItWas() {
        CHECK.sentence("Returns whether it was (STOPPED).");
        FlyTower tower = States.running();
        CHECK.due("stop(false) at first", tower.stop(false), false);
        CHECK.due("stop(true)", tower.stop(true), false);
        CHECK.due("many(6)", tower.many(6), 1);
        CHECK.due("stop(true) again", tower.stop(true), true);
        CHECK.due("many(6) again", tower.many(6), 1);
        CHECK.due("stop(false)", tower.stop(false), true);
        CHECK.due("many(6) then", tower.many(6), 0);
    }

    private static void stoppedGoesOn() {
        CHECK.sentence("it can be STOPPED, and goes on then");
        FlyTower tower = States.bars(1);
        tower.cue(-1);
        tower.move(0, 0, 120, 5, 2);
        tower.go(0);
        tower.pass(2);
        tower.stop(true);
        tower.pass(100);
        CHECK.due("ELAPSED", tower.many(7), 2);
        CHECK.due("HEIGHT", tower.ofBar(0, 2), 0);
        CHECK.due("NOW", tower.many(0), 102);
        tower.stop(false);
        tower.pass(1);
        CHECK.due("ELAPSED as it goes on", tower.many(7), 3);
        CHECK.due("HEIGHT as it goes on", tower.ofBar(0, 2), 5);
    }

    // ---- promise 13

    private static void endWithoutACue() {
        CHECK.sentence("IllegalStateException if none RUNS");
        refused("end() of a new one", States::fresh, Check.STATE, t -> t.end());
        refused("end() behind end()", States::high, Check.STATE, t -> t.end());
        refused("end() at rest", States::resting, Check.STATE, t -> t.end());
    }

    private static void endAnswersTheOpenOnes() {
        CHECK.sentence("Returns how many of its MOVES were open.");
        int[] due = {6, 4, 3, 2, 1};
        for (int seconds = 0; seconds < due.length; seconds++) {
            FlyTower tower = oneAfterAnother();
            tower.go(0);
            for (int second = 0; second < seconds; second++) {
                tower.pass(1);
            }
            CHECK.due("end() behind " + seconds + " seconds", tower.end(), due[seconds]);
        }
        FlyTower without = new FlyTower();
        without.cue(-1);
        without.go(0);
        CHECK.due("end() without MOVES", without.end(), 0);
        CHECK.due("end() of a STOPPED one", States.stopped().end(), 2);
    }

    /** Of the MOVES of CUE 0, the first is REFUSED, and one of the others is DONE in each second. */
    private static FlyTower oneAfterAnother() {
        FlyTower tower = States.bars(0, 1, 1, 1, 1, 1);
        tower.counter(0, 11);
        tower.cue(-1);
        for (int b = 0; b < 6; b++) {
            tower.move(0, b, 6 * b, 6, 0);
        }
        return tower;
    }

    private static void endLetsNothingFollow() {
        CHECK.sentence("Ends the CUE that RUNS; the one that FOLLOWS does not begin.");
        FlyTower tower = States.running();
        tower.end();
        int[] what = {5, 6, 7, 8, 9};
        int[] due = {-1, 0, 0, 0, 0};
        for (int i = 0; i < what.length; i++) {
            CHECK.due("many(" + what[i] + ")", tower.many(what[i]), due[i]);
        }
        tower.pass(5);
        CHECK.due("none RUNS later", tower.many(5), -1);
        CHECK.due("nothing moves later", tower.ofBar(0, 2), 6);
        CHECK.due("the MOVE that was open", tower.ofMove(0, 0, 4), 0);
        CHECK.due("a MOVE of the one that FOLLOWS", tower.ofMove(1, 0, 4), -1);
    }

    // ---- promise 14

    private static void brakeOfNoBar() {
        CHECK.sentence("IndexOutOfBoundsException if there is no such BAR");
        int[] wrong = {-1, 3, 8, Integer.MIN_VALUE, Integer.MAX_VALUE};
        for (int bar : wrong) {
            refused("brake(" + bar + ", true)", States::running, Check.INDEX, t -> t.brake(bar, true));
        }
        refused("brake(8, true) of 8", States::full, Check.INDEX, t -> t.brake(8, true));
        refused("brake(0, false) of none", States::fresh, Check.INDEX, t -> t.brake(0, false));
    }

    private static void brakeAnswersWhetherItWas() {
        CHECK.sentence("Returns whether it was (BROKEN).");
        FlyTower tower = States.full();
        CHECK.due("brake(7, false) of a whole one", tower.brake(7, false), false);
        CHECK.due("brake(7, true)", tower.brake(7, true), false);
        CHECK.due("brake(7, true) again", tower.brake(7, true), true);
        CHECK.due("the set", tower.many(15), 128);
        CHECK.due("brake(0, true)", tower.brake(0, true), false);
        CHECK.due("the set of both", tower.many(15), 129);
        CHECK.due("brake(7, false)", tower.brake(7, false), true);
        CHECK.due("brake(7, false) again", tower.brake(7, false), false);
        CHECK.due("the set of BAR 0", tower.many(15), 1);
    }

    // ---- promise 15

    private static void secondsToPass() {
        CHECK.sentence("IllegalArgumentException if seconds is not 1 to 120");
        FlyTower tower = new FlyTower();
        CHECK.due("pass(1)", tower.pass(1), 0);
        CHECK.due("NOW", tower.many(0), 1);
        CHECK.due("pass(120)", tower.pass(120), 0);
        CHECK.due("NOW", tower.many(0), 121);
        int[] wrong = {0, 121, -1, Integer.MIN_VALUE, Integer.MAX_VALUE};
        for (int seconds : wrong) {
            refused("pass(" + seconds + ")", States::running, Check.ARGUMENT, t -> t.pass(seconds));
        }
    }

    private static void passUpTo3000() {
        CHECK.sentence("IllegalStateException if NOW would be above 3000");
        FlyTower tower = States.lastButOne();
        CHECK.due("NOW", tower.many(0), 2999);
        tower.go(0);
        CHECK.dueThrow("up to 3001", tower, Check.STATE, () -> tower.pass(2));
        CHECK.due("nothing moved", tower.ofBar(0, 2), 0);
        tower.pass(1);
        CHECK.due("up to 3000", tower.many(0), 3000);
        CHECK.due("that second was played", tower.ofBar(0, 2), 6);
        refused("pass(2) at 2999", States::lastButOne, Check.STATE, t -> t.pass(2));
        refused("pass(120) at 2999", States::lastButOne, Check.STATE, t -> t.pass(120));
        refused("pass(1) at 3000", States::last, Check.STATE, t -> t.pass(1));
        refused("pass(120) at 3000", States::last, Check.STATE, t -> t.pass(120));
        FlyTower exact = new FlyTower();
        States.passUpTo(exact, 2880);
        exact.pass(120);
        CHECK.due("120 up to 3000", exact.many(0), 3000);
        FlyTower beyond = new FlyTower();
        States.passUpTo(beyond, 2881);
        CHECK.dueThrow("120 up to 3001", beyond, Check.STATE, () -> beyond.pass(120));
    }

    private static void passFirstNamed() {
        CHECK.sentence("If several exceptions apply, the one that is named first is thrown.");
        refused("pass(121) at 2999", States::lastButOne, Check.ARGUMENT, t -> t.pass(121));
        refused("pass(121) at 3000", States::last, Check.ARGUMENT, t -> t.pass(121));
        refused("pass(0) at 3000", States::last, Check.ARGUMENT, t -> t.pass(0));
        refused("the most at 3000", States::last, Check.ARGUMENT, t -> t.pass(Integer.MAX_VALUE));
    }

    private static void passAnswersTheDoneOnes() {
        CHECK.sentence("Returns how many MOVES were DONE in them.");
        FlyTower tower = States.bars(1, 1, 0, 1);
        tower.counter(2, 11);
        tower.cue(1);
        tower.cue(-1);
        tower.move(0, 0, 6, 6, 0);
        tower.move(0, 1, 12, 6, 0);
        tower.move(0, 2, 12, 6, 0);
        tower.move(1, 0, 0, 6, 0);
        tower.move(1, 3, 6, 6, 1);
        CHECK.due("without a CUE", tower.pass(1), 0);
        tower.go(0);
        CHECK.due("in the first second", tower.pass(1), 1);
        CHECK.due("those of before do not count, REFUSED ones neither", tower.pass(1), 1);
        CHECK.due("what FOLLOWS counts", tower.pass(2), 2);
        CHECK.due("none RUNS", tower.pass(1), 0);
        tower.go(0);
        CHECK.due("over two CUES at once", tower.pass(120), 4);
    }
}
