/** All that hangs above a stage: bars and pieces, cues of moves, and the seconds in which they go. */
public final class FlyTower {
    private static final int NONE = -1;

    private static final int MOST_BARS = 8;
    private static final int MOST_PIECES = 10;
    private static final int MOST_CUES = 6;
    private static final int MOST_MOVES = 6;
    private static final int MOST_OPERATORS = 5;

    private static final int LEAST_LIMIT = 10;
    private static final int MOST_LIMIT = 300;
    private static final int MOST_COUNTER = 300;
    private static final int TOP = 120;
    private static final int MOST_WEIGHT = 90;
    private static final int MOST_DROP = 60;
    private static final int MOST_THICKNESS = 2;
    private static final int MOST_SPEED = 6;
    private static final int MOST_DELAY = 20;

    private static final int LAST_SECOND = 3000;
    private static final int MOST_SECONDS_AT_ONCE = 120;
    private static final int SECONDS_REHEARSED = 200;
    private static final int MOST_SECONDS_AHEAD = 60;

    private static final int MOST_DIFFERENCE_BY_HAND = 10;
    private static final int MOST_RUN_AWAY = 8;
    private static final int LEAST_CRASH = 4;
    private static final int HEIGHT_OF_HEADS = 20;

    private static final int OPEN = 0;
    private static final int DONE = 1;
    private static final int REFUSED = 2;

    private static final int QUESTIONS_OF_MANY = 16;
    private static final int QUESTIONS_OF_BAR = 12;
    private static final int QUESTIONS_OF_PIECE = 4;
    private static final int QUESTIONS_OF_MOVE = 6;

    private static final int DIGEST_START = 9111;
    private static final int DIGEST_FACTOR = 31;
    private static final int DIGEST_SECONDS = 9;

    private final Rig rig;
    // What would be is played on this one, which every such call uses again.
    private final Rig rehearsal;
    private final Piece[] pieceRow;
    private int pieceCount;
    // By PIECE, the BAR that fits() has found for it in the call that runs.
    private final int[] places;

    public FlyTower() {
        rig = new Rig();
        rehearsal = new Rig();
        pieceRow = new Piece[MOST_PIECES];
        for (int p = 0; p < MOST_PIECES; p++) {
            pieceRow[p] = new Piece();
        }
        places = new int[MOST_PIECES];
    }

    // ---- what is told

    public int bar(boolean isMotor, int limit) throws IllegalArgumentException, IllegalStateException {
        if (limit < LEAST_LIMIT || limit > MOST_LIMIT) {
            throw new IllegalArgumentException("a LIMIT is 10 to 300");
        }
        if (rig.barCount >= MOST_BARS) {
            throw new IllegalStateException("there are 8 BARS");
        }
        Bar told = rig.bars[rig.barCount];
        told.isMotor = isMotor;
        told.limit = limit;
        rig.barCount++;
        return told.number;
    }

    public int piece(int weight, int drop, int thickness) throws IllegalArgumentException, IllegalStateException {
        if (weight < 1 || weight > MOST_WEIGHT) {
            throw new IllegalArgumentException("a WEIGHT is 1 to 90");
        }
        if (drop < 0 || drop > MOST_DROP) {
            throw new IllegalArgumentException("a DROP is 0 to 60");
        }
        if (thickness < 0 || thickness > MOST_THICKNESS) {
            throw new IllegalArgumentException("a THICKNESS is 0 to 2");
        }
        if (pieceCount >= MOST_PIECES) {
            throw new IllegalStateException("there are 10 PIECES");
        }
        Piece told = pieceRow[pieceCount];
        told.weight = weight;
        told.drop = drop;
        told.thickness = thickness;
        return pieceCount++;
    }

    public int cue(int follows) throws IllegalArgumentException, IllegalStateException {
        if (follows < NONE || follows >= MOST_CUES) {
            throw new IllegalArgumentException("a CUE is 0 to 5, or NONE");
        }
        if (rig.cueCount >= MOST_CUES) {
            throw new IllegalStateException("there are 6 CUES");
        }
        rig.cues[rig.cueCount].follows = follows;
        return rig.cueCount++;
    }

    public int move(int cue, int bar, int target, int speed, int delay)
            throws IndexOutOfBoundsException, IllegalArgumentException, IllegalStateException {
        Cue row = rig.cueAt(cue);
        Bar moved = rig.barAt(bar);
        if (target < 0 || target > TOP) {
            throw new IllegalArgumentException("a TARGET is 0 to 120");
        }
        if (speed < 1 || speed > MOST_SPEED) {
            throw new IllegalArgumentException("a SPEED is 1 to 6");
        }
        if (delay < 0 || delay > MOST_DELAY) {
            throw new IllegalArgumentException("a DELAY is 0 to 20");
        }
        if (rig.running == cue) {
            throw new IllegalStateException("that CUE RUNS");
        }
        if (row.moveCount >= MOST_MOVES) {
            throw new IllegalStateException("that CUE has 6 MOVES");
        }
        if (row.hasMoveOf(moved.number)) {
            throw new IllegalStateException("that CUE has a MOVE of that BAR");
        }
        Move told = row.moves[row.moveCount];
        told.bar = moved.number;
        told.target = target;
        told.speed = speed;
        told.delay = delay;
        return row.moveCount++;
    }

    public int crew(int crew) throws IllegalArgumentException {
        if (crew < 0 || crew > MOST_OPERATORS) {
            throw new IllegalArgumentException("a CREW is 0 to 5");
        }
        int before = rig.crew;
        rig.crew = crew;
        return before;
    }

    public boolean below(int bar, boolean arePeople, boolean isWatched) throws IndexOutOfBoundsException {
        Bar above = rig.barAt(bar);
        boolean before = above.arePeople;
        above.arePeople = arePeople;
        above.isWatched = isWatched;
        return before;
    }

    // ---- what is done

    public int hang(int piece, int bar) throws IndexOutOfBoundsException, IllegalStateException {
        Piece hung = pieceAt(piece);
        Bar onto = rig.barAt(bar);
        if (hung.bar != NONE) {
            throw new IllegalStateException("that PIECE is not in the STORE");
        }
        refuseUnlessAtRest(onto);
        if (onto.load + hung.weight > onto.limit) {
            throw new IllegalStateException("LOAD would be above LIMIT");
        }
        hung.bar = onto.number;
        weigh(onto);
        return onto.load;
    }

    public int take(int piece) throws IndexOutOfBoundsException, IllegalStateException {
        Piece taken = pieceAt(piece);
        if (taken.bar == NONE) {
            throw new IllegalStateException("that PIECE is in the STORE");
        }
        Bar from = rig.barAt(taken.bar);
        refuseUnlessAtRest(from);
        taken.bar = NONE;
        weigh(from);
        return from.number;
    }

    public int counter(int bar, int counter)
            throws IndexOutOfBoundsException, IllegalArgumentException, IllegalStateException {
        Bar weighted = rig.barAt(bar);
        if (counter < 0 || counter > MOST_COUNTER) {
            throw new IllegalArgumentException("a COUNTER is 0 to 300");
        }
        if (weighted.isMotor) {
            throw new IllegalStateException("that BAR has a MOTOR");
        }
        refuseUnlessAtRest(weighted);
        weighted.counter = counter;
        return weighted.difference();
    }

    public int go(int cue) throws IndexOutOfBoundsException, IllegalStateException {
        Cue begun = rig.cueAt(cue);
        if (rig.running != NONE) {
            throw new IllegalStateException("a CUE RUNS");
        }
        rig.begin(cue);
        return begun.moveCount;
    }

    public boolean stop(boolean is) throws IllegalStateException {
        refuseUnlessRunning();
        boolean before = rig.isStopped;
        rig.isStopped = is;
        return before;
    }

    public int end() throws IllegalStateException {
        refuseUnlessRunning();
        int open = rig.openMoves();
        rig.rest();
        return open;
    }

    public boolean brake(int bar, boolean is) throws IndexOutOfBoundsException {
        Bar braked = rig.barAt(bar);
        boolean before = braked.isBroken;
        braked.isBroken = is;
        return before;
    }

    public int pass(int seconds) throws IllegalArgumentException, IllegalStateException {
        if (seconds < 1 || seconds > MOST_SECONDS_AT_ONCE) {
            throw new IllegalArgumentException("seconds are 1 to 120");
        }
        if (rig.now + seconds > LAST_SECOND) {
            throw new IllegalStateException("NOW would be above 3000");
        }
        int before = rig.done;
        for (int second = 0; second < seconds; second++) {
            rig.playSecond();
        }
        return rig.done - before;
    }

    // ---- what one asks

    public int ofBar(int bar, int what) throws IndexOutOfBoundsException, IllegalArgumentException {
        Bar asked = rig.barAt(bar);
        switch (what) {
            case 0:
                return asked.isMotor ? 1 : 0;
            case 1:
                return asked.limit;
            case 2:
                return asked.height;
            case 3:
                return asked.counter;
            case 4:
                return asked.load;
            case 5:
                return asked.deep;
            case 6:
                return asked.wide;
            case 7:
                return asked.difference();
            case 8:
                return asked.arePeople ? 1 : 0;
            case 9:
                return asked.isWatched ? 1 : 0;
            case 10:
                return asked.isBroken ? 1 : 0;
            case 11:
                return asked.heightsGone;
            default:
                throw new IllegalArgumentException("what is 0 to 11");
        }
    }

    public int ofPiece(int piece, int what) throws IndexOutOfBoundsException, IllegalArgumentException {
        Piece asked = pieceAt(piece);
        switch (what) {
            case 0:
                return asked.weight;
            case 1:
                return asked.drop;
            case 2:
                return asked.thickness;
            case 3:
                return asked.bar;
            default:
                throw new IllegalArgumentException("what is 0 to 3");
        }
    }

    public int ofMove(int cue, int move, int what) throws IndexOutOfBoundsException, IllegalArgumentException {
        Move asked = rig.cueAt(cue).moveAt(move);
        switch (what) {
            case 0:
                return asked.bar;
            case 1:
                return asked.target;
            case 2:
                return asked.speed;
            case 3:
                return asked.delay;
            case 4:
                return asked.state;
            case 5:
                return asked.late;
            default:
                throw new IllegalArgumentException("what is 0 to 5");
        }
    }

    public boolean touch(int one, int other) throws IndexOutOfBoundsException {
        Bar first = rig.barAt(one);
        Bar second = rig.barAt(other);
        return first.touchesAt(first.height, second);
    }

    public int many(int what) throws IllegalArgumentException {
        switch (what) {
            case 0:
                return rig.now;
            case 1:
                return rig.barCount;
            case 2:
                return pieceCount;
            case 3:
                return rig.cueCount;
            case 4:
                return rig.crew;
            case 5:
                return rig.running;
            case 6:
                return rig.isStopped ? 1 : 0;
            case 7:
                return rig.elapsed;
            case 8:
                return rig.openMoves();
            case 9:
                return rig.over;
            case 10:
                return rig.refused;
            case 11:
                return rig.near;
            case 12:
                return rig.crashes;
            case 13:
                return rig.hurt;
            case 14:
                return rig.late;
            case 15:
                return rig.brokenBrakes();
            default:
                throw new IllegalArgumentException("what is 0 to 15");
        }
    }

    public double meanHeight() {
        if (rig.barCount == 0) {
            return 0;
        }
        int sum = 0;
        for (int b = 0; b < rig.barCount; b++) {
            sum += rig.bars[b].height;
        }
        return (double) sum / rig.barCount;
    }

    // ---- what would be (nothing is changed)

    public int secondsFor(int cue) throws IndexOutOfBoundsException {
        return rehearse(cue);
    }

    public int stopsAt(int cue) throws IndexOutOfBoundsException {
        rehearse(cue);
        return rehearsal.keptBack;
    }

    public int wouldHurt(int seconds) throws IllegalArgumentException {
        if (seconds < 1 || seconds > MOST_SECONDS_AHEAD) {
            throw new IllegalArgumentException("seconds are 1 to 60");
        }
        rehearsal.copyFrom(rig);
        for (int second = 0; second < seconds; second++) {
            rehearsal.playSecond();
        }
        return rehearsal.hurt - rig.hurt;
    }

    public int fits(int pieces) throws IllegalArgumentException {
        if (pieces >>> pieceCount != 0) {
            throw new IllegalArgumentException("a bit is no PIECE");
        }
        int found = 0;
        for (int p = 0; p < pieceCount; p++) {
            if (isIn(pieces, p)) {
                int place = smallestPlace(p, pieces);
                if (place == NONE) {
                    return 0;
                }
                places[p] = place;
                found |= 1 << place;
            }
        }
        return found;
    }

    public long digest() {
        long d = DIGEST_START;
        for (int what = 0; what < QUESTIONS_OF_MANY; what++) {
            d = d * DIGEST_FACTOR + many(what);
        }
        for (int b = 0; b < rig.barCount; b++) {
            for (int what = 0; what < QUESTIONS_OF_BAR; what++) {
                d = d * DIGEST_FACTOR + ofBar(b, what);
            }
        }
        for (int p = 0; p < pieceCount; p++) {
            for (int what = 0; what < QUESTIONS_OF_PIECE; what++) {
                d = d * DIGEST_FACTOR + ofPiece(p, what);
            }
        }
        for (int c = 0; c < rig.cueCount; c++) {
            d = digestOfMoves(d, c);
            d = d * DIGEST_FACTOR + rehearse(c);
            d = d * DIGEST_FACTOR + rehearsal.keptBack;
        }
        d = d * DIGEST_FACTOR + wouldHurt(DIGEST_SECONDS);
        return d * DIGEST_FACTOR + fits((1 << pieceCount) - 1);
    }

    private long digestOfMoves(long before, int cue) {
        long d = before;
        int moveCount = rig.cueAt(cue).moveCount;
        for (int m = 0; m < moveCount; m++) {
            for (int what = 0; what < QUESTIONS_OF_MOVE; what++) {
                d = d * DIGEST_FACTOR + ofMove(cue, m, what);
            }
        }
        return d;
    }

    private Piece pieceAt(int piece) {
        if (piece < 0 || piece >= pieceCount) {
            throw new IndexOutOfBoundsException("no such PIECE");
        }
        return pieceRow[piece];
    }

    private void refuseUnlessRunning() {
        if (rig.running == NONE) {
            throw new IllegalStateException("no CUE RUNS");
        }
    }

    private void refuseUnlessAtRest(Bar bar) {
        if (rig.running != NONE) {
            throw new IllegalStateException("a CUE RUNS");
        }
        if (bar.height > 0) {
            throw new IllegalStateException("HEIGHT is above 0");
        }
    }

    /** Tells a BAR anew what hangs on it. */
    private void weigh(Bar bar) {
        bar.load = 0;
        bar.deep = 0;
        bar.wide = 0;
        for (int p = 0; p < pieceCount; p++) {
            Piece piece = pieceRow[p];
            if (piece.bar == bar.number) {
                bar.load += piece.weight;
                bar.deep = Math.max(bar.deep, piece.drop);
                bar.wide = Math.max(bar.wide, piece.thickness);
            }
        }
    }

    /**
     * Returns the seconds till the CUE would be over, or NONE; the rehearsal tells then which BAR was kept back.
     * Throws IndexOutOfBoundsException if there is no such CUE.
     */
    private int rehearse(int cue) {
        rehearsal.copyFrom(rig);
        rehearsal.mendBrakes();
        rehearsal.begin(cue);
        for (int second = 1; second <= SECONDS_REHEARSED; second++) {
            rehearsal.playSecond();
            // Nobody would let it go on again, so that a CUE once STOPPED is never over.
            if (rehearsal.isStopped) {
                return NONE;
            }
            if (rehearsal.over != rig.over) {
                return second;
            }
        }
        return NONE;
    }

    /** Returns the smallest BAR on which a PIECE of the set could hang behind the former ones, or NONE. */
    private int smallestPlace(int piece, int pieces) {
        for (int b = 0; b < rig.barCount; b++) {
            if (pieceRow[piece].weight <= rig.bars[b].limit && isBehindFormer(piece, b, pieces)) {
                return b;
            }
        }
        return NONE;
    }

    private boolean isBehindFormer(int piece, int bar, int pieces) {
        for (int former = 0; former < piece; former++) {
            int thickness = pieceRow[former].thickness + pieceRow[piece].thickness;
            if (isIn(pieces, former) && bar - places[former] <= thickness) {
                return false;
            }
        }
        return true;
    }

    private static boolean isIn(int set, int number) {
        return (set >> number & 1) == 1;
    }

    /** What hangs on a BAR, or lies in the STORE. */
    private static final class Piece {
        private int weight;
        private int drop;
        private int thickness;
        private int bar = NONE;
    }

    private static final class Bar {
        private final int number;
        private boolean isMotor;
        private int limit;
        private int height;
        private int counter;
        private int load;
        private int deep;
        private int wide;
        private boolean arePeople;
        private boolean isWatched = true;
        private boolean isBroken;
        private int heightsGone;
        private int heightBefore;

        private Bar(int number) {
            this.number = number;
        }

        private void copyFrom(Bar other) {
            isMotor = other.isMotor;
            limit = other.limit;
            height = other.height;
            counter = other.counter;
            load = other.load;
            deep = other.deep;
            wide = other.wide;
            arePeople = other.arePeople;
            isWatched = other.isWatched;
            isBroken = other.isBroken;
            heightsGone = other.heightsGone;
            heightBefore = other.heightBefore;
        }

        private int difference() {
            return isMotor ? 0 : load - counter;
        }

        private int differenceWithoutSign() {
            int difference = difference();
            return difference < 0 ? -difference : difference;
        }

        /** Whether this BAR, if it were at a height, would TOUCH the other one where that is. */
        private boolean touchesAt(int at, Bar other) {
            int apart = number < other.number ? other.number - number : number - other.number;
            return apart != 0 && apart <= wide + other.wide
                && at - deep <= other.height && other.height - other.deep <= at;
        }

        private void goTo(int next) {
            heightsGone += next < height ? height - next : next - height;
            height = next;
        }
    }

    private static final class Move {
        private int bar;
        private int target;
        private int speed;
        private int delay;
        private int state = NONE;
        private int late;

        private void copyFrom(Move other) {
            bar = other.bar;
            target = other.target;
            speed = other.speed;
            delay = other.delay;
            state = other.state;
            late = other.late;
        }
    }

    private static final class Cue {
        private final Move[] moves;
        private int moveCount;
        private int follows = NONE;

        private Cue() {
            moves = new Move[MOST_MOVES];
            for (int m = 0; m < MOST_MOVES; m++) {
                moves[m] = new Move();
            }
        }

        private void copyFrom(Cue other) {
            follows = other.follows;
            moveCount = other.moveCount;
            for (int m = 0; m < moveCount; m++) {
                moves[m].copyFrom(other.moves[m]);
            }
        }

        private Move moveAt(int move) {
            if (move < 0 || move >= moveCount) {
                throw new IndexOutOfBoundsException("no such MOVE");
            }
            return moves[move];
        }

        private boolean hasMoveOf(int bar) {
            for (int m = 0; m < moveCount; m++) {
                if (moves[m].bar == bar) {
                    return true;
                }
            }
            return false;
        }

        private void openAll() {
            for (int m = 0; m < moveCount; m++) {
                moves[m].state = OPEN;
                moves[m].late = 0;
            }
        }

        private int openMoves() {
            int open = 0;
            for (int m = 0; m < moveCount; m++) {
                if (moves[m].state == OPEN) {
                    open++;
                }
            }
            return open;
        }
    }

    /** All that a second can change: the BARS, the CUES, the one that RUNS, and what is counted. */
    private static final class Rig {
        private final Bar[] bars;
        private int barCount;
        private final Cue[] cues;
        private int cueCount;
        private int crew = 2;
        private int freeOperators;
        private int now;
        private int running = NONE;
        private boolean isStopped;
        private int elapsed;
        private int done;
        private int over;
        private int refused;
        private int near;
        private int crashes;
        private int hurt;
        private int late;
        private int keptBack = NONE;

        private Rig() {
            bars = new Bar[MOST_BARS];
            for (int b = 0; b < MOST_BARS; b++) {
                bars[b] = new Bar(b);
            }
            cues = new Cue[MOST_CUES];
            for (int c = 0; c < MOST_CUES; c++) {
                cues[c] = new Cue();
            }
        }

        private void copyFrom(Rig other) {
            barCount = other.barCount;
            for (int b = 0; b < barCount; b++) {
                bars[b].copyFrom(other.bars[b]);
            }
            cueCount = other.cueCount;
            for (int c = 0; c < cueCount; c++) {
                cues[c].copyFrom(other.cues[c]);
            }
            crew = other.crew;
            freeOperators = other.freeOperators;
            now = other.now;
            running = other.running;
            isStopped = other.isStopped;
            elapsed = other.elapsed;
            done = other.done;
            over = other.over;
            refused = other.refused;
            near = other.near;
            crashes = other.crashes;
            hurt = other.hurt;
            late = other.late;
            keptBack = NONE;
        }

        private Bar barAt(int bar) {
            if (bar < 0 || bar >= barCount) {
                throw new IndexOutOfBoundsException("no such BAR");
            }
            return bars[bar];
        }

        private Cue cueAt(int cue) {
            if (cue < 0 || cue >= cueCount) {
                throw new IndexOutOfBoundsException("no such CUE");
            }
            return cues[cue];
        }

        private void mendBrakes() {
            for (int b = 0; b < barCount; b++) {
                bars[b].isBroken = false;
            }
        }

        private int brokenBrakes() {
            int set = 0;
            for (int b = 0; b < barCount; b++) {
                if (bars[b].isBroken) {
                    set |= 1 << b;
                }
            }
            return set;
        }

        private void begin(int cue) {
            cueAt(cue).openAll();
            running = cue;
            isStopped = false;
            elapsed = 0;
        }

        private void rest() {
            running = NONE;
            isStopped = false;
            elapsed = 0;
        }

        private int openMoves() {
            return running == NONE ? 0 : cueAt(running).openMoves();
        }

        private void playSecond() {
            now++;
            for (int b = 0; b < barCount; b++) {
                bars[b].heightBefore = bars[b].height;
            }
            if (running != NONE && !isStopped) {
                playMoves(cueAt(running));
            }
            for (int b = 0; b < barCount; b++) {
                if (bars[b].isBroken && bars[b].height == bars[b].heightBefore) {
                    runAway(bars[b]);
                }
            }
            if (running != NONE && openMoves() == 0) {
                finish(cueAt(running).follows);
            }
        }

        private void playMoves(Cue cue) {
            elapsed++;
            freeOperators = crew;
            // Behind a NEAR one all others wait, and a MOVE that waits changes nothing.
            for (int m = 0; m < cue.moveCount && !isStopped; m++) {
                Move move = cue.moves[m];
                if (move.state == OPEN && move.delay <= elapsed - 1) {
                    Bar bar = barAt(move.bar);
                    if (mayGo(move, bar)) {
                        goNearer(move, bar);
                    }
                }
            }
        }

        /** Whether the MOVE goes in this second; otherwise it is REFUSED or LATE by now. */
        private boolean mayGo(Move move, Bar bar) {
            if (bar.differenceWithoutSign() > MOST_DIFFERENCE_BY_HAND) {
                move.state = REFUSED;
                refused++;
                return false;
            }
            boolean isWithoutOperator = !bar.isMotor && freeOperators == 0;
            if (isWithoutOperator || (bar.arePeople && !bar.isWatched)) {
                move.late++;
                late++;
                return false;
            }
            return true;
        }

        private void goNearer(Move move, Bar bar) {
            if (!bar.isMotor) {
                freeOperators--;
            }
            int way = Math.max(-move.speed, Math.min(move.speed, move.target - bar.height));
            int next = bar.height + way;
            if (touchesAnew(bar, next)) {
                isStopped = true;
                near++;
                keptBack = bar.number;
                return;
            }
            bar.goTo(next);
            if (bar.height == move.target) {
                move.state = DONE;
                done++;
            }
        }

        /** Whether a BAR would TOUCH another one at the next height that it does not TOUCH where it is. */
        private boolean touchesAnew(Bar bar, int next) {
            for (int b = 0; b < barCount; b++) {
                if (bar.touchesAt(next, bars[b]) && !bar.touchesAt(bar.height, bars[b])) {
                    return true;
                }
            }
            return false;
        }

        private void runAway(Bar bar) {
            int most = Math.min(MOST_RUN_AWAY, (bar.differenceWithoutSign() + 9) / 10);
            int step = bar.difference() > 0 ? -1 : 1;
            int from = bar.height;
            for (int gone = 0; gone < most; gone++) {
                int next = bar.height + step;
                if (next < 0 || next > TOP || touchesAnew(bar, next)) {
                    break;
                }
                bar.goTo(next);
            }
            judgeRun(bar, from);
        }

        private void judgeRun(Bar bar, int from) {
            int way = bar.height < from ? from - bar.height : bar.height - from;
            if ((bar.height == 0 || bar.height == TOP) && way >= LEAST_CRASH) {
                crashes++;
            }
            if (bar.height < from && bar.height <= HEIGHT_OF_HEADS && bar.arePeople) {
                hurt++;
            }
        }

        private void finish(int follows) {
            over++;
            rest();
            // The CUE that FOLLOWS may never have been told.
            if (follows != NONE && follows < cueCount) {
                begin(follows);
            }
        }
    }
}
