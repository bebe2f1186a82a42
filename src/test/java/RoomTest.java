import java.lang.reflect.Array;
import java.lang.reflect.Field;
import java.lang.reflect.Modifier;
import java.util.ArrayDeque;
import java.util.Collections;
import java.util.Deque;
import java.util.IdentityHashMap;
import java.util.Set;

/** What a tower is made of is little, and the same after all its calls: its rows are made once and used again. */
public final class RoomTest {
    private static final int MOST_OBJECTS = 150;
    private static final int MOST_FIELDS = 1200;
    private static final Check CHECK = new Check();

    private final Set<Object> seen = Collections.newSetFromMap(new IdentityHashMap<>());
    private final Deque<Object> open = new ArrayDeque<>();
    private int fields;

    public static void main(String[] args) throws IllegalAccessException {
        FlyTower tower = new FlyTower();
        RoomTest before = of(tower);
        if (before.seen.size() > MOST_OBJECTS || before.fields > MOST_FIELDS) {
            CHECK.report("a new tower has " + before.seen.size() + " objects, " + before.fields + " fields");
        }
        allCalls(tower);
        RoomTest after = of(tower);
        Set<Object> added = Collections.newSetFromMap(new IdentityHashMap<>());
        added.addAll(after.seen);
        added.removeAll(before.seen);
        CHECK.due("objects that the calls left", added.size(), 0);
        CHECK.due("fields and elements after the calls", after.fields, before.fields);
        CHECK.end();
    }

    private static void allCalls(FlyTower tower) {
        for (int b = 0; b < 8; b++) {
            tower.bar(b % 2 == 0, 100);
            tower.below(b, true, b != 3);
        }
        for (int p = 0; p < 10; p++) {
            tower.piece(9, 6 * p, p % 3);
            tower.hang(p, p % 8);
        }
        tower.counter(1, 40);
        tower.take(9);
        for (int c = 0; c < 6; c++) {
            tower.cue((c + 1) % 6);
            for (int m = 0; m < 6; m++) {
                tower.move(c, (c + m) % 8, 20 * m, m + 1, c);
            }
        }
        tower.brake(1, true);
        tower.crew(5);
        for (int round = 0; round < 30; round++) {
            seconds(tower, round % 6);
        }
    }

    private static void seconds(FlyTower tower, int cue) {
        tower.go(cue);
        tower.pass(20);
        tower.stop(false);
        tower.secondsFor(cue);
        tower.stopsAt(cue);
        tower.wouldHurt(60);
        tower.fits(7);
        tower.touch(0, 1);
        tower.meanHeight();
        tower.digest();
        tower.end();
    }

    private static RoomTest of(FlyTower tower) throws IllegalAccessException {
        RoomTest room = new RoomTest();
        room.see(tower);
        while (!room.open.isEmpty()) {
            room.count(room.open.remove());
        }
        return room;
    }

    private void see(Object object) {
        if (object != null && seen.add(object)) {
            open.add(object);
        }
    }

    private void count(Object object) throws IllegalAccessException {
        if (object.getClass().isArray()) {
            fields += Array.getLength(object);
            for (int i = 0; i < Array.getLength(object); i++) {
                seeUnlessNumber(Array.get(object, i), object.getClass().getComponentType());
            }
            return;
        }
        for (Field field : object.getClass().getDeclaredFields()) {
            if (!Modifier.isStatic(field.getModifiers())) {
                fields++;
                field.setAccessible(true);
                seeUnlessNumber(field.get(object), field.getType());
            }
        }
    }

    private void seeUnlessNumber(Object value, Class<?> type) {
        if (!type.isPrimitive()) {
            see(value);
        }
    }
}
