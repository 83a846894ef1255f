import java.lang.reflect.Array;
import java.lang.reflect.Field;
import java.lang.reflect.Modifier;
import java.util.Collections;
import java.util.IdentityHashMap;
import java.util.List;
import java.util.Set;

/**
 * All calls of one run live in one room, so rows are made with the street and used again: counts the objects, and
 * the fields and elements, that can be reached from a street.
 */
final class RoomTests {
    private static final int CALLS = 512;
    private static final int MOST_OBJECTS = 600000;
    private static final int MOST_ELEMENTS = 7300000;

    private final Set<Object> seen = Collections.newSetFromMap(new IdentityHashMap<>());
    private int elements = 0;

    private RoomTests() {
    }

    static void run() {
        RoomTests fresh = of(new LampCounts());
        Check.holds("room: objects of 512 new streets", fresh.seen.size() * CALLS <= MOST_OBJECTS);
        Check.holds("room: elements of 512 new streets", fresh.elements * CALLS <= MOST_ELEMENTS);
        RoomTests full = of(full());
        int leases = 30;
        Check.holds("room: all calls keep nothing but leases", full.seen.size() <= fresh.seen.size() + leases);
        Check.holds("room: elements of these", full.elements <= fresh.elements + 20 * leases);
    }

    private static RoomTests of(LampCounts x) {
        RoomTests room = new RoomTests();
        try {
            room.reach(x);
        } catch (IllegalAccessException e) {
            Check.holds("room: a street can be looked into", false);
        }
        return room;
    }

    private void reach(Object one) throws IllegalAccessException {
        if (one == null || !seen.add(one)) {
            return;
        }
        if (one.getClass().isArray()) {
            elements += Array.getLength(one);
        } else if (one instanceof List<?> list) {
            elements += list.size();
            for (Object each : list) {
                reach(each);
            }
        } else {
            reachFields(one);
        }
    }

    private void reachFields(Object one) throws IllegalAccessException {
        for (Field field : one.getClass().getDeclaredFields()) {
            if (!Modifier.isStatic(field.getModifiers())) {
                elements++;
                field.setAccessible(true);
                if (!field.getType().isPrimitive()) {
                    reach(field.get(one));
                }
            }
        }
    }

    /** Each limit is reached, and each call that tells something was made. */
    private static LampCounts full() {
        LampCounts x = new LampCounts();
        Streets.breakAll(x);
        for (int hour = 0; hour < 200; hour++) {
            x.pass(1);
            int section = hour % 12;
            int last = hour;
            Outcome.of(() -> x.turnUp(section, last, 30000));
            Outcome.of(() -> x.find(section, last, 60));
            Outcome.of(() -> x.lease(last % 36, last % 6, 50, 50, 1));
            Outcome.of(() -> x.lot(last));
            Outcome.of(() -> x.ask(last % 6, section));
            Outcome.of(() -> x.pay(last % 6, 100000));
            Outcome.of(() -> x.setPeople(section, 1000, 0));
        }
        Told.visible(x);
        Check.same("room: all leases are made", 30, x.leases());
        return x;
    }
}
