import java.util.ArrayList;
import java.util.List;

/** All that a street tells, so that two of them can be held against each other. */
final class Told {
    static final int WAYS = 2;

    private Told() {
    }

    /** What can be read without a change. */
    static List<Long> visible(LampCounts x) {
        List<Long> all = new ArrayList<>(List.of((long) x.hour(), (long) x.leases(), (long) x.lots()));
        for (int hour = 0; hour < x.hour(); hour++) {
            all.add((long) x.through(hour));
            all.add((long) x.missed(hour));
            for (int section = 0; section < 12; section++) {
                all.add((long) x.steps(section, hour));
                all.add((long) x.crowd(section, hour));
                all.add((long) x.reading(section, hour));
                all.add((long) x.count(section, hour));
                all.add((long) x.countAnew(section, hour));
                all.add((long) x.player(section, hour));
            }
        }
        for (int section = 0; section < 12; section++) {
            for (int hour = 0; hour < 200; hour++) {
                all.add((long) x.taken(section, hour));
            }
        }
        for (int lease = 0; lease < x.leases(); lease++) {
            all.addAll(List.of((long) x.billed(lease), (long) x.billedAnew(lease), (long) x.corrected(lease)));
            for (int hour = -1; hour < 301; hour++) {
                all.add(x.isOf(lease, hour) ? 1L : 0L);
            }
        }
        for (int i = 0; i < 6; i++) {
            all.addAll(List.of((long) x.owes(i), (long) x.played(i), (long) x.coins(i)));
        }
        return all;
    }

    /** What can be read, and what only shows by going on: one way of going on hides what the other shows. */
    static List<Long> whole(LampCounts x, int way) {
        List<Long> all = visible(x);
        if (way == 0) {
            askForAll(x, all);
        } else {
            all.add(Outcome.of(() -> x.pass(1)));
        }
        all.addAll(visible(x));
        setAll(x, all);
        useUpLots(x, all);
        useUpLimits(x, all);
        all.addAll(visible(x));
        return all;
    }

    private static void askForAll(LampCounts x, List<Long> all) {
        for (int i = 0; i < 72; i++) {
            int wish = i;
            all.add(Outcome.of(() -> x.ask(wish % 6, wish / 6)));
        }
    }

    private static void setAll(LampCounts x, List<Long> all) {
        for (int section = 0; section < 12; section++) {
            all.add((long) x.setPeople(section, 1000, 0));
            all.add((long) x.setLamp(section, true, 0));
        }
        for (int busker = 0; busker < 6; busker++) {
            all.add((long) x.setSkill(busker, 1));
        }
    }

    private static void useUpLots(LampCounts x, List<Long> all) {
        for (int i = 0; i < 12; i++) {
            askForAll(x, all);
            all.add(Outcome.of(() -> x.pass(1)));
        }
    }

    /** How often something still goes tells how often it has gone. */
    private static void useUpLimits(LampCounts x, List<Long> all) {
        for (int i = 0; i < x.leases(); i++) {
            int lease = i;
            all.add(Outcome.of(() -> x.quit(lease)));
        }
        for (int i = 0; i < 61; i++) {
            int each = i;
            all.add(Outcome.of(() -> x.find(each % 12, x.hour(), each % 61)));
            all.add(Outcome.of(() -> x.lot(each)));
            all.add(Outcome.of(() -> x.lease(each % 36, each % 6, 1, 1, 1)));
            all.add(Outcome.of(() -> x.pay(each % 6, 100000)));
        }
        all.add(Outcome.of(() -> x.pass(1)));
    }
}
