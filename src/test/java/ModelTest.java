import java.util.Arrays;
import java.util.Random;

/** Runs of calls drawn by fixed seeds: FlyTower and the Model give the same answers and exceptions to each. */
public final class ModelTest {
    private static final int RUNS = 120;
    private static final int CALLS = 440;
    private static final Check CHECK = new Check();
    // By the question of many(), the answers at the end of all runs together.
    private static final int[] REACHED = new int[16];

    private final FlyTower tower = new FlyTower();
    private final ModelCalls model = new ModelCalls();
    private final Random random;
    private final int run;
    private final boolean isWild;

    private ModelTest(int run) {
        this.run = run;
        this.random = new Random(run);
        this.isWild = run % 4 == 0;
    }

    public static void main(String[] args) {
        for (int run = 0; run < RUNS; run++) {
            new ModelTest(run).play();
        }
        seen();
        CHECK.end();
    }

    private static void seen() {
        for (int what = 9; what <= 14; what++) {
            if (REACHED[what] < 20) {
                CHECK.report("the runs reach many(" + what + ") too rarely: " + REACHED[what]);
            }
        }
    }

    private void play() {
        for (int call = 0; call < CALLS; call++) {
            String name = call < 45 && !isWild ? toldFirst() : drawn();
            int[] arguments = arguments(name);
            compare(call, name, arguments);
            if (call % 25 == 24) {
                compare(call, "digest", new int[0]);
            }
        }
        for (int what = 0; what < 16; what++) {
            REACHED[what] += tower.many(what);
        }
    }

    private void compare(int call, String name, int[] arguments) {
        String got = answer(name, arguments);
        String want = model.answer(name, arguments);
        if (!got.equals(want)) {
            CHECK.report("run " + run + ", call " + call + ": " + name + Arrays.toString(arguments)
                + " answered " + got + ", due is " + want);
        }
    }

    private int upTo(int most) {
        return random.nextInt(most + 1);
    }

    /** A number of a range; now and then one beside it. */
    private int of(int least, int most) {
        int odd = random.nextInt(isWild ? 12 : 60);
        return odd == 0 ? least - 1 : odd == 1 ? most + 1 : odd == 2 && isWild ? random.nextInt()
            : least + random.nextInt(most - least + 1);
    }

    private String toldFirst() {
        String[] names = {"bar", "bar", "piece", "piece", "cue", "move", "move", "move", "move",
            "hang", "hang", "counter", "below"};
        return names[random.nextInt(names.length)];
    }

    private String drawn() {
        String[] names = {"bar", "piece", "cue", "move", "crew", "below", "below", "hang", "take", "counter",
            "go", "go", "go", "stop", "stop", "end", "brake", "brake", "brake", "pass", "pass", "pass", "pass", "pass",
            "ofBar", "ofPiece", "ofMove", "touch", "many", "meanHeight",
            "secondsFor", "stopsAt", "wouldHurt", "fits", "digest"};
        return names[random.nextInt(names.length)];
    }

    /** The Model is asked, so that no object of FlyTower is used for more than 512 calls. */
    private int modelOf(String name, int... arguments) {
        return Integer.parseInt(model.answer(name, arguments));
    }

    private int barNumber() {
        return of(0, Math.max(0, modelOf("many", 1) - 1));
    }

    private int pieceNumber() {
        return of(0, Math.max(0, modelOf("many", 2) - 1));
    }

    private int cueNumber() {
        return of(0, Math.max(0, modelOf("many", 3) - 1));
    }

    private int[] arguments(String name) {
        switch (name) {
            case "bar":
                return new int[] {random.nextInt(3) == 0 ? 1 : 0, of(10, 300)};
            case "piece":
                return new int[] {of(1, random.nextBoolean() ? 12 : 90), of(0, random.nextBoolean() ? 9 : 60), of(0, 2)};
            case "cue":
                return new int[] {of(-1, 5)};
            case "move":
                return new int[] {cueNumber(), barNumber(), of(0, random.nextBoolean() ? 30 : 120), of(1, 6),
                    random.nextBoolean() ? 0 : of(0, 20)};
            case "crew":
                return new int[] {of(0, 5)};
            case "below":
                return new int[] {barNumber(), upTo(1), upTo(2) == 0 ? 0 : 1};
            case "hang":
                return new int[] {pieceNumber(), barNumber()};
            case "counter":
                return counterArguments();
            case "stop":
                return new int[] {upTo(3) == 0 ? 1 : 0};
            case "brake":
                return new int[] {barNumber(), upTo(1)};
            case "pass":
                return new int[] {random.nextInt(4) == 0 ? of(1, 60) : of(1, 6)};
            default:
                return argumentsOfAsked(name);
        }
    }

    /** Mostly one that nearly balances the load, as others would have each move refused. */
    private int[] counterArguments() {
        int bar = barNumber();
        boolean isBar = bar >= 0 && bar < modelOf("many", 1);
        if (isBar && random.nextInt(4) != 0) {
            return new int[] {bar, Math.max(0, modelOf("ofBar", bar, 4) + upTo(24) - 12)};
        }
        return new int[] {bar, of(0, 300)};
    }

    private int[] argumentsOfAsked(String name) {
        switch (name) {
            case "take":
                return new int[] {pieceNumber()};
            case "go":
            case "secondsFor":
            case "stopsAt":
                return new int[] {cueNumber()};
            case "ofBar":
                return new int[] {barNumber(), of(0, 11)};
            case "ofPiece":
                return new int[] {pieceNumber(), of(0, 3)};
            case "ofMove":
                return new int[] {cueNumber(), of(0, 5), of(0, 5)};
            case "touch":
                return new int[] {barNumber(), barNumber()};
            case "many":
                return new int[] {of(0, 15)};
            case "wouldHurt":
                return new int[] {of(1, 60)};
            case "fits":
                return new int[] {of(0, (1 << modelOf("many", 2)) - 1)};
            default:
                return new int[0];
        }
    }

    private String answer(String name, int[] a) {
        try {
            return answerOf(name, a);
        } catch (RuntimeException e) {
            return "throws." + e.getClass().getSimpleName();
        }
    }

    private static String is(boolean answer) {
        return answer ? "1" : "0";
    }

    private String answerOf(String name, int[] a) {
        switch (name) {
            case "bar":
                return "" + tower.bar(a[0] == 1, a[1]);
            case "piece":
                return "" + tower.piece(a[0], a[1], a[2]);
            case "cue":
                return "" + tower.cue(a[0]);
            case "move":
                return "" + tower.move(a[0], a[1], a[2], a[3], a[4]);
            case "crew":
                return "" + tower.crew(a[0]);
            case "below":
                return is(tower.below(a[0], a[1] == 1, a[2] == 1));
            case "hang":
                return "" + tower.hang(a[0], a[1]);
            case "take":
                return "" + tower.take(a[0]);
            case "counter":
                return "" + tower.counter(a[0], a[1]);
            case "go":
                return "" + tower.go(a[0]);
            case "stop":
                return is(tower.stop(a[0] == 1));
            case "end":
                return "" + tower.end();
            case "brake":
                return is(tower.brake(a[0], a[1] == 1));
            case "pass":
                return "" + tower.pass(a[0]);
            default:
                return answerOfAsked(name, a);
        }
    }

    private String answerOfAsked(String name, int[] a) {
        switch (name) {
            case "ofBar":
                return "" + tower.ofBar(a[0], a[1]);
            case "ofPiece":
                return "" + tower.ofPiece(a[0], a[1]);
            case "ofMove":
                return "" + tower.ofMove(a[0], a[1], a[2]);
            case "touch":
                return is(tower.touch(a[0], a[1]));
            case "many":
                return "" + tower.many(a[0]);
            case "meanHeight":
                return "" + tower.meanHeight();
            case "secondsFor":
                return "" + tower.secondsFor(a[0]);
            case "stopsAt":
                return "" + tower.stopsAt(a[0]);
            case "wouldHurt":
                return "" + tower.wouldHurt(a[0]);
            case "fits":
                return "" + tower.fits(a[0]);
            default:
                return "" + tower.digest();
        }
    }
}
