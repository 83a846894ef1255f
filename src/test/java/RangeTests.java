/** Every argument of every promise: both ends of what is allowed, just outside them, and the largest and least number. */
final class RangeTests {
    private RangeTests() {
    }

    static void run() {
        people();
        lamps();
        leases();
        buskers();
        endedHours();
        hoursOfOtherCalls();
        hoursOfChanges();
        leasesAsTheyAre();
        buskersAsTheyAre();
        leasesWithoutAny();
    }

    private static void people() {
        Edge.number("promise 2, section: 0 to 11", Streets::busy, 12, (x, i) -> x.setPeople(i, 7, 7));
        Edge.range("promise 2, people: 0 to 1000", Streets::busy, 0, 1000, (x, i) -> x.setPeople(4, i, 7));
        Edge.range("promise 2, share: 0 to 100", Streets::busy, 0, 100, (x, i) -> x.setPeople(4, 7, i));
        Edge.range("promise 3, hours: 1 to 50", Streets::busy, 1, 50, LampCounts::pass);
    }

    private static void lamps() {
        Edge.number("promise 4, section: 0 to 11", Streets::busy, 12, (x, i) -> x.setLamp(i, false, 7));
        Edge.range("promise 4, blind: 0 to 60", Streets::busy, 0, 60, (x, i) -> x.setLamp(4, false, i));
        Edge.number("promise 5, section: 0 to 11", Streets::busy, 12, (x, i) -> x.find(i, 0, 33));
        Edge.range("promise 5, blind: 0 to 60", Streets::busy, 0, 60, (x, i) -> x.find(4, 0, i));
        Edge.number("promise 6, section: 0 to 11", Streets::lost, 12, (x, i) -> x.turnUp(i, 0, 33));
        Edge.range("promise 6, reading: 0 to 30000", Streets::busy, 0, 30000, (x, i) -> x.turnUp(0, 1, i));
    }

    private static void leases() {
        Edge.number("promise 7, door: 0 to 35", Streets::busy, 36, (x, i) -> x.lease(i, 0, 1, 1, 1));
        Edge.number("promise 7, tenant: 0 to 5", Streets::busy, 6, (x, i) -> x.lease(20, i, 1, 1, 1));
        Edge.range("promise 7, base: 0 to 50", Streets::busy, 0, 50, (x, i) -> x.lease(20, 0, i, 1, 1));
        Edge.range("promise 7, rate: 0 to 50", Streets::busy, 0, 50, (x, i) -> x.lease(20, 0, 1, i, 1));
        Edge.range("promise 7, hours: 1 to 100", Streets::busy, 1, 100, (x, i) -> x.lease(20, 0, 1, 1, i));
        Edge.number("promise 8, lease: those that were made", RangeTests::threeLeases, 3, LampCounts::quit);
        Edge.number("promise 9, tenant: 0 to 5", Streets::busy, 6, (x, i) -> x.pay(i, 5));
        Edge.range("promise 9, coins: 1 to 100000", Streets::busy, 1, 100000, (x, i) -> x.pay(2, i));
    }

    private static LampCounts threeLeases() {
        LampCounts x = Streets.of(100);
        for (int door = 0; door < 3; door++) {
            x.lease(door, door, 1, 1, 9);
        }
        x.pass(1);
        return x;
    }

    private static void buskers() {
        Edge.number("promise 10, busker: 0 to 5", Streets::busy, 6, (x, i) -> x.setSkill(i, 33));
        Edge.range("promise 10, skill: 0 to 50", Streets::busy, 0, 50, (x, i) -> x.setSkill(3, i));
        Edge.number("promise 11, busker: 0 to 5", Streets::busy, 6, (x, i) -> x.ask(i, 7));
        Edge.number("promise 11, section: 0 to 11", Streets::busy, 12, (x, i) -> x.ask(3, i));
        Edge.range("promise 12, number: 0 to 1000", Streets::busy, 0, 1000, LampCounts::lot);
    }

    private interface OfHour {
        long on(LampCounts x, int section, int hour);
    }

    /** The sections, and the hours 0 to the hour of now, less 1: none at first, then one, and all 200 in the end. */
    private static void ofHour(int promise, OfHour call) {
        String hour = "promise " + promise + ", hour: 0 to the hour of now, less 1";
        Edge.number("promise " + promise + ", section: 0 to 11", Streets::busy, 12, (x, i) -> call.on(x, i, 1));
        for (int now : new int[] {0, 1, 2, 200}) {
            Edge.range(hour + ", now " + now, () -> Streets.ended(now), 0, now - 1, (x, i) -> call.on(x, 11, i));
        }
    }

    private static void endedHours() {
        ofHour(14, LampCounts::steps);
        ofHour(15, LampCounts::crowd);
        ofHour(16, (x, section, hour) -> section < 0 || section > 11 ? x.steps(section, hour) : x.through(hour));
        ofHour(17, LampCounts::reading);
        ofHour(19, LampCounts::count);
        ofHour(20, LampCounts::countAnew);
        ofHour(21, (x, section, hour) -> section < 0 || section > 11 ? x.steps(section, hour) : x.missed(hour));
        ofHour(28, LampCounts::player);
    }

    private static void hoursOfOtherCalls() {
        Edge.number("promise 18, section: 0 to 11", Streets::busy, 12, (x, i) -> x.taken(i, 1));
        for (int now : new int[] {0, 1, 199, 200}) {
            Edge.range("promise 18, hour: 0 to 199, now " + now, () -> Streets.ended(now), 0, 199,
                    (x, i) -> x.taken(11, i));
        }
        for (int hour : new int[] {Integer.MIN_VALUE, -1, 0, 1, 2, 3, 199, 200, 201, Integer.MAX_VALUE}) {
            Edge.allows("promise 23, hour: any hour, " + hour, Streets::busy, x -> x.isOf(0, hour) ? 1 : 0);
        }
    }

    private static void hoursOfChanges() {
        for (int now : new int[] {0, 1, 2, 199, 200}) {
            Edge.range("promise 5, hour: 0 to the hour of now, now " + now, () -> Streets.ended(now), 0, now,
                    (x, i) -> x.find(3, i, 33));
            Edge.range("promise 6, hour: 0 to the hour of now, less 1, now " + now, () -> allLost(now), 0, now - 1,
                    (x, i) -> x.turnUp(3, i, 33));
        }
    }

    private static LampCounts allLost(int hours) {
        LampCounts x = Streets.of(100);
        Streets.breakAll(x);
        return Streets.passed(x, hours);
    }

    private static void leasesAsTheyAre() {
        Edge.number("promise 23, lease: those that were made", Streets::busy, 3, (x, i) -> x.isOf(i, 0) ? 1 : 0);
        Edge.number("promise 24, lease: those that were made", Streets::busy, 3, LampCounts::billed);
        Edge.number("promise 25, lease: those that were made", Streets::busy, 3, LampCounts::billedAnew);
        Edge.number("promise 26, lease: those that were made", Streets::busy, 3, LampCounts::corrected);
        Edge.number("promise 27, tenant: 0 to 5", Streets::busy, 6, LampCounts::owes);
    }

    private static void leasesWithoutAny() {
        Edge.number("promise 8, lease: none was made", LampCounts::new, 0, LampCounts::quit);
        Edge.number("promise 23, lease: none was made", LampCounts::new, 0, (x, i) -> x.isOf(i, 0) ? 1 : 0);
        Edge.number("promise 24, lease: none was made", LampCounts::new, 0, LampCounts::billed);
        Edge.number("promise 25, lease: none was made", LampCounts::new, 0, LampCounts::billedAnew);
        Edge.number("promise 26, lease: none was made", LampCounts::new, 0, LampCounts::corrected);
        Edge.number("promise 24, lease: 30 were made", RangeTests::thirty, 30, LampCounts::billed);
        Edge.number("promise 25, lease: 30 were made", RangeTests::thirty, 30, LampCounts::billedAnew);
        Edge.number("promise 26, lease: 30 were made", RangeTests::thirty, 30, LampCounts::corrected);
        Edge.number("promise 23, lease: 30 were made", RangeTests::thirty, 30, (x, i) -> x.isOf(i, 0) ? 1 : 0);
        Edge.number("promise 8, lease: 30 were made", RangeTests::thirty, 30, LampCounts::quit);
    }

    private static LampCounts thirty() {
        LampCounts x = Streets.of(100);
        for (int door = 0; door < 30; door++) {
            x.lease(door, door % 6, 1, 1, 9);
        }
        x.pass(1);
        return x;
    }

    private static void buskersAsTheyAre() {
        Edge.number("promise 29, busker: 0 to 5", Streets::busy, 6, LampCounts::played);
        Edge.number("promise 30, busker: 0 to 5", Streets::busy, 6, LampCounts::coins);
    }
}
