/** Towers to begin a test with; each call makes a new one, in the same state as the one before. */
final class States {
    private States() {
    }

    static FlyTower fresh() {
        return new FlyTower();
    }

    /**
     * At rest: BAR 0 by HAND (LIMIT 100, LOAD 60, DIFFERENCE 5), 1 with a MOTOR (LIMIT 60, LOAD 5), 2 by HAND (LIMIT
     * 10, a BROKEN BRAKE, PEOPLE below); PIECES 0 on 0, 3 on 1, 1 and 2 in the STORE; CUES 0 (followed by 1) and 1.
     */
    static FlyTower resting() {
        FlyTower tower = new FlyTower();
        tower.bar(false, 100);
        tower.bar(true, 60);
        tower.bar(false, 10);
        tower.piece(60, 10, 1);
        tower.piece(40, 5, 0);
        tower.piece(41, 0, 2);
        tower.piece(5, 60, 0);
        tower.hang(0, 0);
        tower.hang(3, 1);
        tower.counter(0, 55);
        tower.counter(2, 4);
        tower.brake(2, true);
        tower.below(2, true, false);
        tower.cue(1);
        tower.cue(-1);
        tower.move(0, 0, 120, 6, 0);
        tower.move(0, 1, 30, 3, 1);
        tower.move(1, 0, 0, 6, 0);
        return tower;
    }

    /** CUE 0 RUNS, with two MOVES open. */
    static FlyTower running() {
        FlyTower tower = resting();
        tower.go(0);
        tower.pass(1);
        return tower;
    }

    static FlyTower stopped() {
        FlyTower tower = running();
        tower.stop(true);
        return tower;
    }

    /** No CUE RUNS, BAR 0 is at 6, BAR 1 at 0, BAR 2 at 1. */
    static FlyTower high() {
        FlyTower tower = running();
        tower.end();
        return tower;
    }

    /** 8 BARS, 10 PIECES, and 6 CUES of 6 MOVES. */
    static FlyTower full() {
        FlyTower tower = new FlyTower();
        for (int b = 0; b < 8; b++) {
            tower.bar(b % 2 == 1, 100);
        }
        for (int p = 0; p < 10; p++) {
            tower.piece(p + 1, 3 * p, p % 3);
        }
        tower.hang(9, 0);
        tower.hang(1, 5);
        for (int c = 0; c < 6; c++) {
            tower.cue(5 - c);
            for (int m = 0; m < 6; m++) {
                tower.move(c, (c + m) % 8, 20 * m + c, m + 1, c);
            }
        }
        return tower;
    }

    static FlyTower lastButOne() {
        FlyTower tower = resting();
        passUpTo(tower, 2999);
        return tower;
    }

    static FlyTower last() {
        FlyTower tower = resting();
        passUpTo(tower, 3000);
        return tower;
    }

    static void passUpTo(FlyTower tower, int now) {
        while (tower.many(0) < now) {
            tower.pass(Math.min(120, now - tower.many(0)));
        }
    }

    /** BARS by HAND (0) or with a MOTOR (1), each with a LIMIT of 300. */
    static FlyTower bars(int... areMotors) {
        FlyTower tower = new FlyTower();
        for (int isMotor : areMotors) {
            tower.bar(isMotor == 1, 300);
        }
        return tower;
    }

    /** A new CUE brings the BAR to a HEIGHT, by 6 a second; none may RUN. Returns the CUE. */
    static int bring(FlyTower tower, int bar, int height) {
        int cue = tower.cue(-1);
        tower.move(cue, bar, height, 6, 0);
        tower.go(cue);
        tower.pass(20);
        return cue;
    }
}
