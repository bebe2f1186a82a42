import java.util.ArrayList;
import java.util.List;

/**
 * A call that is due to throw, made on one of two like towers: it throws exactly that class, and each later call
 * answers as on the tower on which it was never made. So what digest() does not show (what FOLLOWS) is seen, too.
 */
final class Refusal {
    interface State {
        FlyTower make();
    }

    interface Call {
        Object on(FlyTower tower);
    }

    private final FlyTower tower;
    private final List<String> answers = new ArrayList<>();

    private Refusal(FlyTower tower) {
        this.tower = tower;
    }

    static void due(Check check, String what, State state, Class<?> want, Call call) {
        FlyTower asked = state.make();
        Class<?> got = Check.thrownBy(() -> call.on(asked));
        if (got != want) {
            check.report(what + " threw " + got + ", due is " + want);
        }
        compare(check, what, asked, state);
    }

    /** The like of a call that throws nothing, and changes nothing. */
    static void unchanged(Check check, String what, State state, Call call) {
        FlyTower asked = state.make();
        call.on(asked);
        compare(check, what, asked, state);
    }

    private static void compare(Check check, String what, FlyTower asked, State state) {
        List<String> after = new Refusal(asked).later();
        List<String> without = new Refusal(state.make()).later();
        for (int i = 0; i < without.size(); i++) {
            if (!after.get(i).equals(without.get(i))) {
                check.report("behind " + what + ", " + after.get(i) + "; without it, " + without.get(i));
                return;
            }
        }
    }

    /** What the next calls answer, of nearly each method of the face; with those of a State they stay below 512. */
    private List<String> later() {
        countsAndSums();
        seconds();
        eachCue();
        eachBarAndPiece();
        toldMore();
        return answers;
    }

    private void answer(String what, Call call) {
        String answer;
        try {
            answer = "" + call.on(tower);
        } catch (RuntimeException e) {
            answer = "throws " + e.getClass().getSimpleName();
        }
        answers.add(what + " = " + answer);
    }

    private void digest() {
        answer("digest()", t -> t.digest());
    }

    private void countsAndSums() {
        for (int what = 0; what < 16; what++) {
            int asked = what;
            answer("many(" + what + ")", t -> t.many(asked));
        }
        answer("meanHeight()", t -> t.meanHeight());
        digest();
    }

    private void seconds() {
        int[] seconds = {1, 1, 4, 30};
        for (int some : seconds) {
            answer("pass(" + some + ")", t -> t.pass(some));
            digest();
        }
        answer("stop(false)", t -> t.stop(false));
        answer("pass(3)", t -> t.pass(3));
        digest();
        answer("end()", t -> t.end());
        digest();
    }

    private void eachCue() {
        for (int c = 0; c < 6; c++) {
            int cue = c;
            answer("go(" + c + ")", t -> t.go(cue));
            answer("pass(3)", t -> t.pass(3));
            digest();
            answer("end()", t -> t.end());
        }
    }

    private void eachBarAndPiece() {
        for (int i = 0; i < 10; i++) {
            int number = i;
            answer("take(" + i + ")", t -> t.take(number));
            answer("hang(" + i + ")", t -> t.hang(number, number % 8));
            answer("counter(" + i + ")", t -> t.counter(number, 30));
            answer("below(" + i + ")", t -> t.below(number, true, number % 2 == 0));
            answer("brake(" + i + ")", t -> t.brake(number, number % 3 == 0));
            answer("touch(" + i + ")", t -> t.touch(number, number + 1));
        }
        digest();
    }

    private void toldMore() {
        answer("crew(3)", t -> t.crew(3));
        answer("bar(false, 50)", t -> t.bar(false, 50));
        answer("piece(9, 9, 1)", t -> t.piece(9, 9, 1));
        answer("cue(-1)", t -> t.cue(-1));
        for (int c = 0; c < 6; c++) {
            int cue = c;
            answer("move(" + c + ")", t -> t.move(cue, 0, 50, 3, 1));
            answer("move(" + c + ")", t -> t.move(cue, 7, 50, 3, 1));
        }
        answer("go(0)", t -> t.go(0));
        answer("pass(20)", t -> t.pass(20));
        answer("wouldHurt(60)", t -> t.wouldHurt(60));
        answer("fits(1)", t -> t.fits(1));
        digest();
    }
}
