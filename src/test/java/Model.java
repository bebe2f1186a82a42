import java.util.ArrayList;
import java.util.HashSet;
import java.util.List;
import java.util.Set;

/**
 * The document once more, word by word and without a thought for its cost: heights are sets, what would be is played
 * on a copy, and what hangs is counted anew each time. ModelTest compares FlyTower with it.
 */
final class Model {
    static final class Bar {
        boolean isMotor;
        int limit;
        int height;
        int counter;
        boolean people;
        boolean watched = true;
        boolean broken;
        int gone;
    }

    static final class Piece {
        int weight;
        int drop;
        int thickness;
        int bar = -1;
    }

    static final class Move {
        int bar;
        int target;
        int speed;
        int delay;
        int state = -1;
        int late;
    }

    static final class Cue {
        int follows;
        final List<Move> moves = new ArrayList<>();
    }

    final List<Bar> bars = new ArrayList<>();
    final List<Piece> pieces = new ArrayList<>();
    final List<Cue> cues = new ArrayList<>();
    int crew = 2;
    int now;
    int running = -1;
    boolean stopped;
    int elapsed;
    int done;
    int over;
    int refused;
    int near;
    int crashes;
    int hurt;
    int late;
    int firstKeptBack = -1;

    Model copy() {
        Model copy = new Model();
        for (Bar from : bars) {
            Bar bar = new Bar();
            bar.isMotor = from.isMotor;
            bar.limit = from.limit;
            bar.height = from.height;
            bar.counter = from.counter;
            bar.people = from.people;
            bar.watched = from.watched;
            bar.broken = from.broken;
            bar.gone = from.gone;
            copy.bars.add(bar);
        }
        for (Piece from : pieces) {
            Piece piece = new Piece();
            piece.weight = from.weight;
            piece.drop = from.drop;
            piece.thickness = from.thickness;
            piece.bar = from.bar;
            copy.pieces.add(piece);
        }
        for (Cue from : cues) {
            Cue cue = new Cue();
            cue.follows = from.follows;
            for (Move fromMove : from.moves) {
                Move move = new Move();
                move.bar = fromMove.bar;
                move.target = fromMove.target;
                move.speed = fromMove.speed;
                move.delay = fromMove.delay;
                move.state = fromMove.state;
                move.late = fromMove.late;
                cue.moves.add(move);
            }
            copy.cues.add(cue);
        }
        copy.crew = crew;
        copy.now = now;
        copy.running = running;
        copy.stopped = stopped;
        copy.elapsed = elapsed;
        copy.done = done;
        copy.over = over;
        copy.refused = refused;
        copy.near = near;
        copy.crashes = crashes;
        copy.hurt = hurt;
        copy.late = late;
        return copy;
    }

    int load(int bar) {
        return pieces.stream().filter(p -> p.bar == bar).mapToInt(p -> p.weight).sum();
    }

    int deep(int bar) {
        return pieces.stream().filter(p -> p.bar == bar).mapToInt(p -> p.drop).max().orElse(0);
    }

    int wide(int bar) {
        return pieces.stream().filter(p -> p.bar == bar).mapToInt(p -> p.thickness).max().orElse(0);
    }

    int difference(int bar) {
        return bars.get(bar).isMotor ? 0 : load(bar) - bars.get(bar).counter;
    }

    private Set<Integer> filled(int bar) {
        Set<Integer> heights = new HashSet<>();
        for (int h = bars.get(bar).height - deep(bar); h <= bars.get(bar).height; h++) {
            heights.add(h);
        }
        return heights;
    }

    boolean touch(int one, int other) {
        if (one == other || Math.abs(one - other) > wide(one) + wide(other)) {
            return false;
        }
        Set<Integer> both = filled(one);
        both.retainAll(filled(other));
        return !both.isEmpty();
    }

    private Set<Integer> touched(int bar) {
        Set<Integer> touched = new HashSet<>();
        for (int other = 0; other < bars.size(); other++) {
            if (touch(bar, other)) {
                touched.add(other);
            }
        }
        return touched;
    }

    private boolean touchesAnewAt(int bar, int height) {
        Set<Integer> here = touched(bar);
        int was = bars.get(bar).height;
        bars.get(bar).height = height;
        Set<Integer> there = touched(bar);
        bars.get(bar).height = was;
        there.removeAll(here);
        return !there.isEmpty();
    }

    long open() {
        return running < 0 ? 0 : cues.get(running).moves.stream().filter(m -> m.state == 0).count();
    }

    void begin(int cue) {
        running = cue;
        elapsed = 0;
        stopped = false;
        for (Move move : cues.get(cue).moves) {
            move.state = 0;
            move.late = 0;
        }
    }

    void endCue() {
        running = -1;
        elapsed = 0;
        stopped = false;
    }

    void second() {
        now++;
        int[] before = bars.stream().mapToInt(b -> b.height).toArray();
        if (running >= 0 && !stopped) {
            moveByMove();
        }
        for (int b = 0; b < bars.size(); b++) {
            if (bars.get(b).broken && bars.get(b).height == before[b]) {
                runAway(b);
            }
        }
        if (running >= 0 && open() == 0) {
            over++;
            int next = cues.get(running).follows;
            endCue();
            if (next >= 0 && next < cues.size()) {
                begin(next);
            }
        }
    }

    private void moveByMove() {
        elapsed++;
        int used = 0;
        for (Move move : cues.get(running).moves) {
            if (move.state != 0) {
                continue;
            }
            Bar bar = bars.get(move.bar);
            if (move.delay > elapsed - 1 || stopped) {
                continue;
            } else if (!bar.isMotor && Math.abs(difference(move.bar)) > 10) {
                move.state = 2;
                refused++;
            } else if (!bar.isMotor && used >= crew) {
                move.late++;
                late++;
            } else if (bar.people && !bar.watched) {
                move.late++;
                late++;
            } else {
                used += bar.isMotor ? 0 : 1;
                oneWay(move, bar);
            }
        }
    }

    private void oneWay(Move move, Bar bar) {
        int left = Math.abs(move.target - bar.height);
        int way = left < move.speed ? left : move.speed;
        int next = move.target > bar.height ? bar.height + way : bar.height - way;
        if (touchesAnewAt(move.bar, next)) {
            stopped = true;
            near++;
            firstKeptBack = firstKeptBack < 0 ? move.bar : firstKeptBack;
            return;
        }
        bar.gone += way;
        bar.height = next;
        if (next == move.target) {
            move.state = 1;
            done++;
        }
    }

    private void runAway(int number) {
        Bar bar = bars.get(number);
        int difference = difference(number);
        int way = Math.min(8, (int) Math.ceil(Math.abs(difference) / 10.0));
        int gone = 0;
        while (gone < way) {
            int next = difference > 0 ? bar.height - 1 : bar.height + 1;
            if (next < 0 || next > 120 || touchesAnewAt(number, next)) {
                break;
            }
            bar.height = next;
            bar.gone++;
            gone++;
        }
        if ((bar.height == 0 || bar.height == 120) && gone >= 4) {
            crashes++;
        }
        if (difference > 0 && gone > 0 && bar.height <= 20 && bar.people) {
            hurt++;
        }
    }

    /** Returns the seconds, and behind them the bar that was kept back. */
    int[] wouldTake(int cue) {
        Model copy = copy();
        copy.bars.forEach(b -> b.broken = false);
        copy.endCue();
        copy.begin(cue);
        for (int seconds = 1; seconds <= 200; seconds++) {
            copy.second();
            if (copy.over > over) {
                return new int[] {seconds, -1};
            }
            if (copy.stopped) {
                return new int[] {-1, copy.firstKeptBack};
            }
        }
        return new int[] {-1, -1};
    }

    int wouldHurt(int seconds) {
        Model copy = copy();
        for (int s = 0; s < seconds; s++) {
            copy.second();
        }
        return copy.hurt - hurt;
    }

    /** Tries each row of bars from the smallest on, as if there were nothing greedy in it. */
    int fits(int set) {
        List<Integer> chosen = new ArrayList<>();
        for (int p = 0; p < pieces.size(); p++) {
            if ((set & (1 << p)) != 0) {
                chosen.add(p);
            }
        }
        int found = chosen.isEmpty() ? 0 : fitsFrom(chosen, new ArrayList<>());
        return Math.max(found, 0);
    }

    private int fitsFrom(List<Integer> chosen, List<Integer> places) {
        if (places.size() == chosen.size()) {
            return places.stream().mapToInt(b -> 1 << b).sum();
        }
        Piece piece = pieces.get(chosen.get(places.size()));
        for (int b = 0; b < bars.size(); b++) {
            boolean can = piece.weight <= bars.get(b).limit;
            for (int i = 0; i < places.size(); i++) {
                can &= b - places.get(i) > pieces.get(chosen.get(i)).thickness + piece.thickness;
            }
            if (can) {
                List<Integer> more = new ArrayList<>(places);
                more.add(b);
                int found = fitsFrom(chosen, more);
                if (found >= 0) {
                    return found;
                }
            }
        }
        return -1;
    }
}
