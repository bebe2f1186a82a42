/** The boundary cases that the document names for promises 1 to 7 and for its Terms 1 and 2, sentence by sentence. */
public final class EdgesToldTest {
    private static final Check CHECK = new Check();

    public static void main(String[] args) {
        newTowerIsWithoutBars();
        newTowerAtFirst();
        newTowersShareNothing();
        atMostEightBars();
        barsFromZero();
        limits();
        limitIsRefusedAheadOfANinth();
        barAtFirst();
        atMostTenPieces();
        piecesFromZero();
        weights();
        drops();
        thicknesses();
        pieceArgumentsAheadOfAnEleventh();
        piecesAtFirst();
        atMostSixCues();
        followsAtItsEnds();
        followsIsRefusedAheadOfASeventh();
        followsOneThatIsToldLater();
        cueAtFirst();
        moveOfNoCueOrBar();
        targets();
        speeds();
        delays();
        moveArgumentsAheadOfStates();
        moveOfACueThatRuns();
        atMostSixMoves();
        oneMoveOfABarInACue();
        crews();
        crewAnswersTheOneBefore();
        belowNoBar();
        belowAnswersWhetherPeopleWere();
        belowBarByBar();
        CHECK.end();
    }

    private static void refused(String what, Refusal.State state, Class<?> want, Refusal.Call call) {
        Refusal.due(CHECK, what, state, want, call);
    }

    // ---- promise 1

    private static void newTowerIsWithoutBars() {
        CHECK.sentence("Creates a tower without BARS.");
        CHECK.due("many(1)", new FlyTower().many(1), 0);
        refused("ofBar(0, 0)", States::fresh, Check.INDEX, t -> t.ofBar(0, 0));
        CHECK.due("bar()", new FlyTower().bar(true, 10), 0);
    }

    private static void newTowerAtFirst() {
        CHECK.sentence("NOW is 0 at first; CREW 2 at first; none RUNS, nothing is counted");
        int[] due = {0, 0, 0, 0, 2, -1, 0, 0, 0, 0, 0, 0, 0, 0, 0, 0};
        FlyTower tower = new FlyTower();
        for (int what = 0; what < due.length; what++) {
            CHECK.due("many(" + what + ")", tower.many(what), due[what]);
        }
    }

    private static void newTowersShareNothing() {
        CHECK.sentence("Creates a tower");
        FlyTower first = States.running();
        long before = first.digest();
        FlyTower second = States.full();
        second.crew(5);
        second.go(2);
        second.pass(100);
        CHECK.due("digest() of another tower", first.digest(), before);
        CHECK.due("digest() of a new one", new FlyTower().digest(), -8745273721740748652L);
    }

    // ---- promise 2

    private static void atMostEightBars() {
        CHECK.sentence("IllegalStateException if there are 8 (BARS)");
        FlyTower tower = new FlyTower();
        for (int b = 0; b < 8; b++) {
            CHECK.due("bar", tower.bar(b == 7, 10 + b), b);
        }
        CHECK.due("limit of the eighth", tower.ofBar(7, 1), 17);
        refused("a ninth", States::full, Check.STATE, t -> t.bar(true, 100));
        refused("a ninth by hand", States::full, Check.STATE, t -> t.bar(false, 10));
    }

    private static void barsFromZero() {
        CHECK.sentence("BARS: at most 8, numbered from 0");
        FlyTower tower = new FlyTower();
        CHECK.due("bar(false, 20)", tower.bar(false, 20), 0);
        CHECK.due("bar(true, 30)", tower.bar(true, 30), 1);
        CHECK.due("limit of 0", tower.ofBar(0, 1), 20);
        CHECK.due("limit of 1", tower.ofBar(1, 1), 30);
        CHECK.due("motor of 0", tower.ofBar(0, 0), 0);
        CHECK.due("motor of 1", tower.ofBar(1, 0), 1);
    }

    private static void limits() {
        CHECK.sentence("IllegalArgumentException if limit is not 10 to 300");
        FlyTower tower = new FlyTower();
        CHECK.due("bar(false, 10)", tower.bar(false, 10), 0);
        CHECK.due("bar(true, 300)", tower.bar(true, 300), 1);
        CHECK.due("a LIMIT of 10", tower.ofBar(0, 1), 10);
        CHECK.due("a LIMIT of 300", tower.ofBar(1, 1), 300);
        int[] wrong = {9, 301, 0, -1, -10, Integer.MIN_VALUE, Integer.MAX_VALUE};
        for (int limit : wrong) {
            refused("bar(true, " + limit + ")", States::resting, Check.ARGUMENT, t -> t.bar(true, limit));
            refused("bar(false, " + limit + ")", States::fresh, Check.ARGUMENT, t -> t.bar(false, limit));
        }
    }

    private static void limitIsRefusedAheadOfANinth() {
        CHECK.sentence("If several exceptions apply, the one that is named first is thrown.");
        refused("a ninth of 9", States::full, Check.ARGUMENT, t -> t.bar(true, 9));
        refused("a ninth of 301", States::full, Check.ARGUMENT, t -> t.bar(false, 301));
    }

    private static void barAtFirst() {
        CHECK.sentence("HEIGHT 0 at first, COUNTER 0 at first, PEOPLE not at first, WATCHED at first");
        int[] due = {0, 77, 0, 0, 0, 0, 0, 0, 0, 1, 0, 0};
        FlyTower tower = new FlyTower();
        tower.bar(false, 77);
        tower.bar(true, 77);
        for (int what = 0; what < due.length; what++) {
            CHECK.due("ofBar(0, " + what + ")", tower.ofBar(0, what), due[what]);
            CHECK.due("ofBar(1, " + what + ")", tower.ofBar(1, what), what == 0 ? 1 : due[what]);
        }
    }

    // ---- promise 3

    private static void atMostTenPieces() {
        CHECK.sentence("IllegalStateException if there are 10 (PIECES)");
        FlyTower tower = new FlyTower();
        for (int p = 0; p < 10; p++) {
            CHECK.due("piece", tower.piece(1 + p, p, p % 3), p);
        }
        CHECK.due("weight of the tenth", tower.ofPiece(9, 0), 10);
        refused("an eleventh", States::full, Check.STATE, t -> t.piece(1, 0, 0));
    }

    private static void piecesFromZero() {
        CHECK.sentence("PIECES: at most 10, numbered from 0");
        FlyTower tower = new FlyTower();
        CHECK.due("piece(3, 4, 1)", tower.piece(3, 4, 1), 0);
        CHECK.due("piece(5, 6, 2)", tower.piece(5, 6, 2), 1);
        CHECK.due("weight of 0", tower.ofPiece(0, 0), 3);
        CHECK.due("drop of 1", tower.ofPiece(1, 1), 6);
    }

    private static void weights() {
        CHECK.sentence("IllegalArgumentException if weight is not 1 to 90");
        FlyTower tower = new FlyTower();
        CHECK.due("piece(1, 0, 0)", tower.piece(1, 0, 0), 0);
        CHECK.due("piece(90, 0, 0)", tower.piece(90, 0, 0), 1);
        CHECK.due("a WEIGHT of 1", tower.ofPiece(0, 0), 1);
        CHECK.due("a WEIGHT of 90", tower.ofPiece(1, 0), 90);
        int[] wrong = {0, 91, -1, Integer.MIN_VALUE, Integer.MAX_VALUE};
        for (int weight : wrong) {
            refused("piece(" + weight + ", 1, 1)", States::resting, Check.ARGUMENT, t -> t.piece(weight, 1, 1));
        }
    }

    private static void drops() {
        CHECK.sentence("IllegalArgumentException if drop is not 0 to 60");
        FlyTower tower = new FlyTower();
        CHECK.due("piece(1, 0, 0)", tower.piece(1, 0, 0), 0);
        CHECK.due("piece(1, 60, 0)", tower.piece(1, 60, 0), 1);
        CHECK.due("a DROP of 0", tower.ofPiece(0, 1), 0);
        CHECK.due("a DROP of 60", tower.ofPiece(1, 1), 60);
        int[] wrong = {-1, 61, Integer.MIN_VALUE, Integer.MAX_VALUE};
        for (int drop : wrong) {
            refused("piece(1, " + drop + ", 1)", States::resting, Check.ARGUMENT, t -> t.piece(1, drop, 1));
        }
    }

    private static void thicknesses() {
        CHECK.sentence("IllegalArgumentException if thickness is not 0 to 2");
        FlyTower tower = new FlyTower();
        for (int thickness = 0; thickness <= 2; thickness++) {
            CHECK.due("piece(1, 0, " + thickness + ")", tower.piece(1, 0, thickness), thickness);
            CHECK.due("its THICKNESS", tower.ofPiece(thickness, 2), thickness);
        }
        int[] wrong = {-1, 3, Integer.MIN_VALUE, Integer.MAX_VALUE};
        for (int thickness : wrong) {
            refused("piece(1, 1, " + thickness + ")", States::resting, Check.ARGUMENT, t -> t.piece(1, 1, thickness));
        }
    }

    private static void pieceArgumentsAheadOfAnEleventh() {
        CHECK.sentence("If several exceptions apply, the one that is named first is thrown.");
        refused("an eleventh of weight 0", States::full, Check.ARGUMENT, t -> t.piece(0, 0, 0));
        refused("an eleventh of drop 61", States::full, Check.ARGUMENT, t -> t.piece(1, 61, 0));
        refused("an eleventh of thickness 3", States::full, Check.ARGUMENT, t -> t.piece(1, 0, 3));
    }

    private static void piecesAtFirst() {
        CHECK.sentence("Tells a PIECE, in the STORE.");
        FlyTower tower = States.bars(0);
        tower.piece(5, 5, 1);
        CHECK.due("its BAR", tower.ofPiece(0, 3), -1);
        CHECK.due("LOAD of BAR 0", tower.ofBar(0, 4), 0);
        CHECK.due("hang(0, 0)", tower.hang(0, 0), 5);
        CHECK.due("its BAR 0", tower.ofPiece(0, 3), 0);
    }

    // ---- promise 4

    private static void atMostSixCues() {
        CHECK.sentence("IllegalStateException if there are 6 (CUES)");
        FlyTower tower = new FlyTower();
        for (int c = 0; c < 6; c++) {
            CHECK.due("cue", tower.cue(-1), c);
        }
        CHECK.due("go(5)", tower.go(5), 0);
        refused("a seventh", States::full, Check.STATE, t -> t.cue(-1));
        for (int follows = -1; follows <= 5; follows++) {
            int other = follows;
            refused("a seventh that " + follows + " follows", EdgesToldTest::sixInARing, Check.STATE, t -> t.cue(other));
        }
    }

    /** CUES without MOVES, each followed by the next one, so that a CUE changed by a refused call is seen. */
    private static FlyTower ring(int count) {
        FlyTower tower = new FlyTower();
        for (int c = 0; c < count; c++) {
            tower.cue((c + 1) % count);
        }
        return tower;
    }

    private static FlyTower sixInARing() {
        return ring(6);
    }

    private static FlyTower twoInARing() {
        return ring(2);
    }

    private static void followsAtItsEnds() {
        CHECK.sentence("IllegalArgumentException if follows is not -1 to 5");
        for (int follows = -1; follows <= 5; follows++) {
            FlyTower tower = new FlyTower();
            for (int c = 0; c < 6; c++) {
                tower.cue(follows);
            }
            tower.go(0);
            tower.pass(1);
            CHECK.due("what follows behind cue(" + follows + ")", tower.many(5), follows);
        }
        int[] wrong = {-2, 6, Integer.MIN_VALUE, Integer.MAX_VALUE};
        for (int follows : wrong) {
            refused("cue(" + follows + ")", States::resting, Check.ARGUMENT, t -> t.cue(follows));
            refused("cue(" + follows + ") of 2", EdgesToldTest::twoInARing, Check.ARGUMENT, t -> t.cue(follows));
        }
    }

    private static void followsIsRefusedAheadOfASeventh() {
        CHECK.sentence("If several exceptions apply, the one that is named first is thrown.");
        refused("a seventh that 6 follows", States::full, Check.ARGUMENT, t -> t.cue(6));
        refused("a seventh that -2 follows", States::full, Check.ARGUMENT, t -> t.cue(-2));
    }

    private static void followsOneThatIsToldLater() {
        CHECK.sentence("the CUE that FOLLOWS (it may be told later), or NONE");
        FlyTower tower = new FlyTower();
        tower.cue(1);
        tower.go(0);
        CHECK.due("told while the first RUNS", tower.cue(-1), 1);
        tower.pass(1);
        CHECK.due("it RUNS then", tower.many(5), 1);
        FlyTower without = new FlyTower();
        without.cue(1);
        without.go(0);
        without.pass(1);
        CHECK.due("never told: none RUNS", without.many(5), -1);
        without.cue(-1);
        without.pass(1);
        CHECK.due("told too late: none RUNS", without.many(5), -1);
    }

    private static void cueAtFirst() {
        CHECK.sentence("Tells a CUE without MOVES.");
        FlyTower tower = States.bars(1);
        tower.cue(-1);
        CHECK.due("secondsFor()", tower.secondsFor(0), 1);
        CHECK.due("go()", tower.go(0), 0);
        refused("ofMove(1, 1, 0)", States::resting, Check.INDEX, t -> t.ofMove(1, 1, 0));
    }

    // ---- promise 5

    private static void moveOfNoCueOrBar() {
        CHECK.sentence("IndexOutOfBoundsException if there is no such CUE, or BAR");
        int[] noCue = {-1, 2, 6, Integer.MIN_VALUE, Integer.MAX_VALUE};
        for (int cue : noCue) {
            refused("a MOVE of CUE " + cue, States::resting, Check.INDEX, t -> t.move(cue, 2, 10, 1, 0));
        }
        int[] noBar = {-1, 3, 8, Integer.MIN_VALUE, Integer.MAX_VALUE};
        for (int bar : noBar) {
            refused("a MOVE of BAR " + bar, States::resting, Check.INDEX, t -> t.move(1, bar, 10, 1, 0));
        }
        refused("CUE 6 of a full tower", States::full, Check.INDEX, t -> t.move(6, 0, 10, 1, 0));
        refused("BAR 8 of a full tower", States::full, Check.INDEX, t -> t.move(0, 8, 10, 1, 0));
        refused("CUE 0 of a new tower", States::fresh, Check.INDEX, t -> t.move(0, 0, 10, 1, 0));
        CHECK.due("the last CUE, the last BAR", States.resting().move(1, 2, 10, 1, 0), 1);
    }

    private static void targets() {
        CHECK.sentence("IllegalArgumentException if target is not 0 to 120");
        int[] right = {0, 120};
        for (int target : right) {
            FlyTower tower = States.resting();
            CHECK.due("TARGET " + target, tower.move(1, 2, target, 1, 0), 1);
            CHECK.due("its TARGET", tower.ofMove(1, 1, 1), target);
        }
        int[] wrong = {-1, 121, Integer.MIN_VALUE, Integer.MAX_VALUE};
        for (int target : wrong) {
            refused("TARGET " + target, States::resting, Check.ARGUMENT, t -> t.move(1, 2, target, 1, 0));
        }
    }

    private static void speeds() {
        CHECK.sentence("IllegalArgumentException if speed is not 1 to 6");
        int[] right = {1, 6};
        for (int speed : right) {
            FlyTower tower = States.resting();
            CHECK.due("SPEED " + speed, tower.move(1, 2, 1, speed, 0), 1);
            CHECK.due("its SPEED", tower.ofMove(1, 1, 2), speed);
        }
        int[] wrong = {0, 7, -1, Integer.MIN_VALUE, Integer.MAX_VALUE};
        for (int speed : wrong) {
            refused("SPEED " + speed, States::resting, Check.ARGUMENT, t -> t.move(1, 2, 10, speed, 0));
        }
    }

    private static void delays() {
        CHECK.sentence("IllegalArgumentException if delay is not 0 to 20");
        int[] right = {0, 20};
        for (int delay : right) {
            FlyTower tower = States.resting();
            CHECK.due("DELAY " + delay, tower.move(1, 2, 1, 1, delay), 1);
            CHECK.due("its DELAY", tower.ofMove(1, 1, 3), delay);
        }
        int[] wrong = {-1, 21, Integer.MIN_VALUE, Integer.MAX_VALUE};
        for (int delay : wrong) {
            refused("DELAY " + delay, States::resting, Check.ARGUMENT, t -> t.move(1, 2, 10, 1, delay));
        }
    }

    private static void moveArgumentsAheadOfStates() {
        CHECK.sentence("If several exceptions apply, the one that is named first is thrown.");
        // Each with one wrong TARGET, SPEED or DELAY, at last with none.
        int[][] rest = {{121, 1, 0}, {-1, 1, 0}, {10, 0, 0}, {10, 7, 0}, {10, 1, -1}, {10, 1, 21}, {10, 1, 0}};
        for (int[] r : rest) {
            String what = " by " + r[0] + ", " + r[1] + ", " + r[2];
            refused("no CUE" + what, States::running, Check.INDEX, t -> t.move(2, 2, r[0], r[1], r[2]));
            refused("no BAR" + what, States::resting, Check.INDEX, t -> t.move(0, 3, r[0], r[1], r[2]));
            refused("no BAR, it RUNS" + what, States::running, Check.INDEX, t -> t.move(0, -1, r[0], r[1], r[2]));
            refused("no BAR, it has 6" + what, States::full, Check.INDEX, t -> t.move(0, 8, r[0], r[1], r[2]));
            Class<?> due = r == rest[6] ? Check.STATE : Check.ARGUMENT;
            refused("it RUNS" + what, States::running, due, t -> t.move(0, 2, r[0], r[1], r[2]));
            refused("it has 6" + what, States::full, due, t -> t.move(0, 7, r[0], r[1], r[2]));
            refused("one of that BAR" + what, States::resting, due, t -> t.move(0, 0, r[0], r[1], r[2]));
        }
    }

    private static void moveOfACueThatRuns() {
        CHECK.sentence("IllegalStateException if that CUE RUNS");
        refused("it RUNS", States::running, Check.STATE, t -> t.move(0, 2, 11, 3, 7));
        refused("it RUNS, and is STOPPED", States::stopped, Check.STATE, t -> t.move(0, 2, 11, 3, 7));
        CHECK.due("another one RUNS", States.running().move(1, 2, 10, 1, 0), 1);
        CHECK.due("it RUNS no more", States.high().move(0, 2, 10, 1, 0), 2);
        FlyTower followed = new FlyTower();
        followed.bar(true, 10);
        followed.cue(1);
        followed.cue(-1);
        followed.go(0);
        followed.pass(1);
        CHECK.dueThrow("it FOLLOWS, and RUNS", followed, Check.STATE, () -> followed.move(1, 0, 10, 1, 0));
        CHECK.due("the one ahead of it", followed.move(0, 0, 10, 1, 0), 0);
    }

    private static void atMostSixMoves() {
        CHECK.sentence("IllegalStateException if that CUE has 6 (MOVES)");
        FlyTower tower = States.bars(1, 1, 1, 1, 1, 1, 1);
        tower.cue(-1);
        for (int b = 0; b < 6; b++) {
            CHECK.due("a MOVE", tower.move(0, b, b, 1, 0), b);
        }
        CHECK.due("BAR of the sixth", tower.ofMove(0, 5, 0), 5);
        CHECK.dueThrow("a seventh", tower, Check.STATE, () -> tower.move(0, 6, 0, 1, 0));
        refused("a seventh of CUE 0", States::full, Check.STATE, t -> t.move(0, 6, 11, 3, 7));
        refused("a seventh of CUE 5", States::full, Check.STATE, t -> t.move(5, 4, 11, 3, 7));
    }

    private static void oneMoveOfABarInACue() {
        CHECK.sentence("IllegalStateException if that CUE has one of that BAR");
        refused("BAR 0, of MOVE 0", States::resting, Check.STATE, t -> t.move(0, 0, 10, 1, 7));
        refused("BAR 1, of MOVE 1", States::resting, Check.STATE, t -> t.move(0, 1, 10, 1, 7));
        refused("the very same MOVE", States::resting, Check.STATE, t -> t.move(1, 0, 0, 6, 0));
        FlyTower tower = States.resting();
        CHECK.due("another BAR", tower.move(0, 2, 10, 1, 0), 2);
        CHECK.due("that BAR in another CUE", tower.move(1, 1, 10, 1, 0), 1);
    }

    // ---- promise 6

    private static void crews() {
        CHECK.sentence("IllegalArgumentException if crew is not 0 to 5");
        FlyTower tower = new FlyTower();
        for (int crew = 0; crew <= 5; crew++) {
            tower.crew(crew);
            CHECK.due("the CREW", tower.many(4), crew);
        }
        int[] wrong = {-1, 6, Integer.MIN_VALUE, Integer.MAX_VALUE};
        for (int crew : wrong) {
            refused("crew(" + crew + ")", States::running, Check.ARGUMENT, t -> t.crew(crew));
        }
    }

    private static void crewAnswersTheOneBefore() {
        CHECK.sentence("Returns how many there were. (2 at first)");
        FlyTower tower = new FlyTower();
        CHECK.due("crew(0)", tower.crew(0), 2);
        CHECK.due("crew(0) again", tower.crew(0), 0);
        CHECK.due("crew(5)", tower.crew(5), 0);
        CHECK.due("crew(2)", tower.crew(2), 5);
    }

    // ---- promise 7

    private static void belowNoBar() {
        CHECK.sentence("IndexOutOfBoundsException if there is no such BAR");
        int[] wrong = {-1, 3, 8, Integer.MIN_VALUE, Integer.MAX_VALUE};
        for (int bar : wrong) {
            refused("below(" + bar + ", ..)", States::running, Check.INDEX, t -> t.below(bar, true, false));
        }
        refused("below(8, ..) of 8", States::full, Check.INDEX, t -> t.below(8, true, false));
        refused("below(0, ..) of none", States::fresh, Check.INDEX, t -> t.below(0, true, true));
    }

    private static void belowAnswersWhetherPeopleWere() {
        CHECK.sentence("Returns whether PEOPLE were. (not at first)");
        FlyTower tower = States.bars(0);
        CHECK.due("at first", tower.below(0, true, false), false);
        CHECK.due("behind true, false", tower.below(0, true, true), true);
        CHECK.due("behind true, true", tower.below(0, false, true), true);
        CHECK.due("behind false, true", tower.below(0, false, false), false);
        CHECK.due("behind false, false", tower.below(0, true, true), false);
    }

    private static void belowBarByBar() {
        CHECK.sentence("PEOPLE stand below BARS or not, each BAR by itself, and it is WATCHED there or not");
        FlyTower tower = States.full();
        tower.below(0, true, false);
        tower.below(7, false, false);
        for (int b = 0; b < 8; b++) {
            CHECK.due("PEOPLE below " + b, tower.ofBar(b, 8), b == 0 ? 1 : 0);
            CHECK.due("WATCHED at " + b, tower.ofBar(b, 9), b == 0 || b == 7 ? 0 : 1);
        }
    }
}
