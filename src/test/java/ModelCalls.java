/** The calls of the face on a Model: each answers a number, or names its exception. */
final class ModelCalls {
    private final Model model = new Model();

    private static String throwsIndex() {
        return "throws.IndexOutOfBoundsException";
    }

    private static String throwsArgument() {
        return "throws.IllegalArgumentException";
    }

    private static String throwsState() {
        return "throws.IllegalStateException";
    }

    private static String is(boolean answer) {
        return answer ? "1" : "0";
    }

    private static boolean isOut(int number, int least, int most) {
        return number < least || number > most;
    }

    private boolean isNoBar(int bar) {
        return isOut(bar, 0, model.bars.size() - 1);
    }

    private boolean isNoPiece(int piece) {
        return isOut(piece, 0, model.pieces.size() - 1);
    }

    private boolean isNoCue(int cue) {
        return isOut(cue, 0, model.cues.size() - 1);
    }

    String answer(String name, int[] a) {
        switch (name) {
            case "bar":
                return bar(a[0] == 1, a[1]);
            case "piece":
                return piece(a[0], a[1], a[2]);
            case "cue":
                return cue(a[0]);
            case "move":
                return move(a[0], a[1], a[2], a[3], a[4]);
            case "crew":
                return crew(a[0]);
            case "below":
                return below(a[0], a[1] == 1, a[2] == 1);
            case "hang":
                return hang(a[0], a[1]);
            case "take":
                return take(a[0]);
            case "counter":
                return counter(a[0], a[1]);
            case "go":
                return go(a[0]);
            case "stop":
                return stop(a[0] == 1);
            case "end":
                return end();
            case "brake":
                return brake(a[0], a[1] == 1);
            case "pass":
                return pass(a[0]);
            default:
                return asked(name, a);
        }
    }

    private String asked(String name, int[] a) {
        switch (name) {
            case "ofBar":
                return isNoBar(a[0]) ? throwsIndex() : isOut(a[1], 0, 11) ? throwsArgument() : "" + ofBar(a[0], a[1]);
            case "ofPiece":
                return isNoPiece(a[0]) ? throwsIndex() : isOut(a[1], 0, 3) ? throwsArgument() : "" + ofPiece(a[0], a[1]);
            case "ofMove":
                return isNoCue(a[0]) || isOut(a[1], 0, model.cues.get(a[0]).moves.size() - 1) ? throwsIndex()
                    : isOut(a[2], 0, 5) ? throwsArgument() : "" + ofMove(a[0], a[1], a[2]);
            case "touch":
                return isNoBar(a[0]) || isNoBar(a[1]) ? throwsIndex() : is(model.touch(a[0], a[1]));
            case "many":
                return isOut(a[0], 0, 15) ? throwsArgument() : "" + many(a[0]);
            case "meanHeight":
                return "" + model.bars.stream().mapToInt(b -> b.height).average().orElse(0);
            case "secondsFor":
                return isNoCue(a[0]) ? throwsIndex() : "" + model.wouldTake(a[0])[0];
            case "stopsAt":
                return isNoCue(a[0]) ? throwsIndex() : "" + model.wouldTake(a[0])[1];
            case "wouldHurt":
                return isOut(a[0], 1, 60) ? throwsArgument() : "" + model.wouldHurt(a[0]);
            case "fits":
                return isOut(a[0], 0, (1 << model.pieces.size()) - 1) ? throwsArgument() : "" + model.fits(a[0]);
            default:
                return "" + digest();
        }
    }

    private String bar(boolean isMotor, int limit) {
        if (isOut(limit, 10, 300)) {
            return throwsArgument();
        }
        if (model.bars.size() == 8) {
            return throwsState();
        }
        Model.Bar bar = new Model.Bar();
        bar.isMotor = isMotor;
        bar.limit = limit;
        model.bars.add(bar);
        return "" + (model.bars.size() - 1);
    }

    private String piece(int weight, int drop, int thickness) {
        if (isOut(weight, 1, 90) || isOut(drop, 0, 60) || isOut(thickness, 0, 2)) {
            return throwsArgument();
        }
        if (model.pieces.size() == 10) {
            return throwsState();
        }
        Model.Piece piece = new Model.Piece();
        piece.weight = weight;
        piece.drop = drop;
        piece.thickness = thickness;
        model.pieces.add(piece);
        return "" + (model.pieces.size() - 1);
    }

    private String cue(int follows) {
        if (isOut(follows, -1, 5)) {
            return throwsArgument();
        }
        if (model.cues.size() == 6) {
            return throwsState();
        }
        Model.Cue cue = new Model.Cue();
        cue.follows = follows;
        model.cues.add(cue);
        return "" + (model.cues.size() - 1);
    }

    private String move(int cue, int bar, int target, int speed, int delay) {
        if (isNoCue(cue) || isNoBar(bar)) {
            return throwsIndex();
        }
        if (isOut(target, 0, 120) || isOut(speed, 1, 6) || isOut(delay, 0, 20)) {
            return throwsArgument();
        }
        Model.Cue row = model.cues.get(cue);
        if (model.running == cue || row.moves.size() == 6 || row.moves.stream().anyMatch(m -> m.bar == bar)) {
            return throwsState();
        }
        Model.Move move = new Model.Move();
        move.bar = bar;
        move.target = target;
        move.speed = speed;
        move.delay = delay;
        row.moves.add(move);
        return "" + (row.moves.size() - 1);
    }

    private String crew(int crew) {
        if (isOut(crew, 0, 5)) {
            return throwsArgument();
        }
        String before = "" + model.crew;
        model.crew = crew;
        return before;
    }

    private String below(int bar, boolean arePeople, boolean isWatched) {
        if (isNoBar(bar)) {
            return throwsIndex();
        }
        String before = is(model.bars.get(bar).people);
        model.bars.get(bar).people = arePeople;
        model.bars.get(bar).watched = isWatched;
        return before;
    }

    private boolean mayNotTouch(int bar) {
        return model.running >= 0 || model.bars.get(bar).height > 0;
    }

    private String hang(int piece, int bar) {
        if (isNoPiece(piece) || isNoBar(bar)) {
            return throwsIndex();
        }
        int load = model.load(bar) + model.pieces.get(piece).weight;
        if (model.pieces.get(piece).bar >= 0 || mayNotTouch(bar) || load > model.bars.get(bar).limit) {
            return throwsState();
        }
        model.pieces.get(piece).bar = bar;
        return "" + load;
    }

    private String take(int piece) {
        if (isNoPiece(piece)) {
            return throwsIndex();
        }
        int bar = model.pieces.get(piece).bar;
        if (bar < 0 || mayNotTouch(bar)) {
            return throwsState();
        }
        model.pieces.get(piece).bar = -1;
        return "" + bar;
    }

    private String counter(int bar, int counter) {
        if (isNoBar(bar)) {
            return throwsIndex();
        }
        if (isOut(counter, 0, 300)) {
            return throwsArgument();
        }
        if (model.bars.get(bar).isMotor || mayNotTouch(bar)) {
            return throwsState();
        }
        model.bars.get(bar).counter = counter;
        return "" + model.difference(bar);
    }

    private String go(int cue) {
        if (isNoCue(cue)) {
            return throwsIndex();
        }
        if (model.running >= 0) {
            return throwsState();
        }
        model.begin(cue);
        return "" + model.cues.get(cue).moves.size();
    }

    private String stop(boolean is) {
        if (model.running < 0) {
            return throwsState();
        }
        String before = is(model.stopped);
        model.stopped = is;
        return before;
    }

    private String end() {
        if (model.running < 0) {
            return throwsState();
        }
        String open = "" + model.open();
        model.endCue();
        return open;
    }

    private String brake(int bar, boolean is) {
        if (isNoBar(bar)) {
            return throwsIndex();
        }
        String before = is(model.bars.get(bar).broken);
        model.bars.get(bar).broken = is;
        return before;
    }

    private String pass(int seconds) {
        if (isOut(seconds, 1, 120)) {
            return throwsArgument();
        }
        if (model.now + seconds > 3000) {
            return throwsState();
        }
        int before = model.done;
        for (int s = 0; s < seconds; s++) {
            model.second();
        }
        return "" + (model.done - before);
    }

    private int ofBar(int bar, int what) {
        Model.Bar b = model.bars.get(bar);
        int[] all = {b.isMotor ? 1 : 0, b.limit, b.height, b.counter, model.load(bar), model.deep(bar), model.wide(bar),
            model.difference(bar), b.people ? 1 : 0, b.watched ? 1 : 0, b.broken ? 1 : 0, b.gone};
        return all[what];
    }

    private int ofPiece(int piece, int what) {
        Model.Piece p = model.pieces.get(piece);
        int[] all = {p.weight, p.drop, p.thickness, p.bar};
        return all[what];
    }

    private int ofMove(int cue, int move, int what) {
        Model.Move m = model.cues.get(cue).moves.get(move);
        int[] all = {m.bar, m.target, m.speed, m.delay, m.state, m.late};
        return all[what];
    }

    private int many(int what) {
        int broken = 0;
        for (int b = 0; b < model.bars.size(); b++) {
            broken += model.bars.get(b).broken ? 1 << b : 0;
        }
        int[] all = {model.now, model.bars.size(), model.pieces.size(), model.cues.size(), model.crew, model.running,
            model.stopped ? 1 : 0, model.elapsed, (int) model.open(), model.over, model.refused, model.near,
            model.crashes, model.hurt, model.late, broken};
        return all[what];
    }

    private long digest() {
        long d = 9111;
        for (int what = 0; what < 16; what++) {
            d = d * 31 + many(what);
        }
        for (int b = 0; b < model.bars.size(); b++) {
            for (int what = 0; what < 12; what++) {
                d = d * 31 + ofBar(b, what);
            }
        }
        for (int p = 0; p < model.pieces.size(); p++) {
            for (int what = 0; what < 4; what++) {
                d = d * 31 + ofPiece(p, what);
            }
        }
        for (int c = 0; c < model.cues.size(); c++) {
            for (int m = 0; m < model.cues.get(c).moves.size(); m++) {
                for (int what = 0; what < 6; what++) {
                    d = d * 31 + ofMove(c, m, what);
                }
            }
            int[] would = model.wouldTake(c);
            d = (d * 31 + would[0]) * 31 + would[1];
        }
        d = d * 31 + model.wouldHurt(9);
        return d * 31 + model.fits((1 << model.pieces.size()) - 1);
    }
}
