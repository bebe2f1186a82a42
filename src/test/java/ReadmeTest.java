/** The calls that README.md shows, in its order, answer what it says beside them. */
public final class ReadmeTest {
    private static final Check CHECK = new Check();

    public static void main(String[] args) {
        FlyTower tower = new FlyTower();
        upAndDown(tower);
        whatWouldBe(tower);
        CHECK.end();
    }

    private static void upAndDown(FlyTower tower) {
        CHECK.sentence("README: a bar goes up and down");
        int bar = tower.bar(false, 100);
        int tree = tower.piece(30, 20, 0);
        CHECK.due("hang(tree, bar)", tower.hang(tree, bar), 30);
        CHECK.due("counter(bar, 30)", tower.counter(bar, 30), 0);
        int up = tower.cue(1);
        int down = tower.cue(-1);
        tower.move(up, bar, 50, 4, 0);
        tower.move(down, bar, 0, 6, 2);
        int seconds = tower.secondsFor(up);
        CHECK.due("secondsFor(up)", seconds, 13);
        CHECK.due("go(up)", tower.go(up), 1);
        CHECK.due("pass(seconds)", tower.pass(seconds), 1);
        CHECK.due("ofBar(bar, 2)", tower.ofBar(bar, 2), 50);
        CHECK.due("many(5)", tower.many(5), 1);
        CHECK.due("pass(11)", tower.pass(11), 1);
        CHECK.due("ofBar(bar, 2)", tower.ofBar(bar, 2), 0);
    }

    private static void whatWouldBe(FlyTower tower) {
        CHECK.sentence("README: what would be is asked ahead");
        int up = 0;
        int other = tower.bar(true, 60);
        int wall = tower.piece(40, 40, 1);
        CHECK.due("fits(3)", tower.fits(3), 0);
        CHECK.due("hang(wall, other)", tower.hang(wall, other), 40);
        tower.go(up);
        tower.pass(13);
        CHECK.due("ofBar(0, 2)", tower.ofBar(0, 2), 50);
        CHECK.due("end()", tower.end(), 1);
        int third = tower.cue(-1);
        tower.move(third, other, 60, 6, 0);
        CHECK.due("secondsFor(third)", tower.secondsFor(third), -1);
        CHECK.due("stopsAt(third)", tower.stopsAt(third), 1);
        tower.go(third);
        CHECK.due("pass(20)", tower.pass(20), 0);
        CHECK.due("ofBar(other, 2)", tower.ofBar(other, 2), 24);
        CHECK.due("many(6)", tower.many(6), 1);
        CHECK.dueThrow("take(wall)", tower, Check.STATE, () -> tower.take(wall));
    }
}
