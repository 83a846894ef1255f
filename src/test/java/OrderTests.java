/** If several exceptions apply, the one that is named first in the throws clause is thrown. */
final class OrderTests {
    private OrderTests() {
    }

    static void run() {
        people();
        lamps();
        findings();
        lostReadings();
        leases();
        payments();
        buskers();
        answers();
    }

    private static void first(int promise, String what, Edge.State state, long exception, Edge.Call call) {
        Edge.refuses("promise " + promise + ", which exception comes first: " + what, state, exception, call);
    }

    private static void people() {
        first(2, "section and people", Streets::busy, Outcome.INDEX, x -> x.setPeople(12, 1001, 0));
        first(2, "section and share", Streets::busy, Outcome.INDEX, x -> x.setPeople(-1, 0, 101));
        first(2, "section and both", Streets::busy, Outcome.INDEX, x -> x.setPeople(12, -1, -1));
        first(3, "0 hours, and 200 have ended", () -> Streets.ended(200), Outcome.ARGUMENT, x -> x.pass(0));
        first(3, "51 hours, and 200 have ended", () -> Streets.ended(200), Outcome.ARGUMENT, x -> x.pass(51));
        first(3, "51 hours, and 150 have ended", () -> Streets.ended(150), Outcome.ARGUMENT, x -> x.pass(51));
        first(3, "the most hours", () -> Streets.ended(199), Outcome.ARGUMENT, x -> x.pass(Integer.MAX_VALUE));
    }

    private static void lamps() {
        first(4, "section and blind", Streets::busy, Outcome.INDEX, x -> x.setLamp(12, true, 61));
        first(4, "section and blind, too small", Streets::busy, Outcome.INDEX, x -> x.setLamp(-1, true, -1));
    }

    static LampCounts found(int many) {
        LampCounts x = Streets.ended(2);
        for (int i = 0; i < many; i++) {
            x.find(i % 12, i % 3, 1 + i % 60);
        }
        return x;
    }

    private static void findings() {
        first(5, "section and hour", Streets::busy, Outcome.INDEX, x -> x.find(12, 4, 0));
        first(5, "section and blind", Streets::busy, Outcome.INDEX, x -> x.find(-1, 0, 61));
        first(5, "section, and 60 were found", () -> found(60), Outcome.INDEX, x -> x.find(12, 0, 0));
        first(5, "all three", () -> found(60), Outcome.INDEX, x -> x.find(12, 3, 61));
        first(5, "hour, and 60 were found", () -> found(60), Outcome.ARGUMENT, x -> x.find(0, 3, 0));
        first(5, "hour -1, and 60 were found", () -> found(60), Outcome.ARGUMENT, x -> x.find(0, -1, 0));
        first(5, "blind, and 60 were found", () -> found(60), Outcome.ARGUMENT, x -> x.find(0, 0, 61));
        first(5, "blind -1, and 60 were found", () -> found(60), Outcome.ARGUMENT, x -> x.find(0, 0, -1));
    }

    private static void lostReadings() {
        first(6, "section and hour", Streets::busy, Outcome.INDEX, x -> x.turnUp(12, 3, 0));
        first(6, "section and reading", Streets::busy, Outcome.INDEX, x -> x.turnUp(-1, 0, 30001));
        first(6, "reading, and there is one", Streets::busy, Outcome.ARGUMENT, x -> x.turnUp(1, 0, 30001));
        first(6, "reading -1, and there is one", Streets::busy, Outcome.ARGUMENT, x -> x.turnUp(1, 0, -1));
        first(6, "the hour of now, where there could be none", Streets::busy, Outcome.ARGUMENT, x -> x.turnUp(1, 3, 0));
    }

    static LampCounts leased(int many) {
        LampCounts x = Streets.of(100);
        for (int i = 0; i < many; i++) {
            x.lease(i, i % 6, 1, 1, 50);
        }
        return x;
    }

    private static void leases() {
        first(7, "door and base", Streets::busy, Outcome.INDEX, x -> x.lease(36, 0, 51, 0, 1));
        first(7, "door and rate", Streets::busy, Outcome.INDEX, x -> x.lease(-1, 0, 0, 51, 1));
        first(7, "tenant and hours", Streets::busy, Outcome.INDEX, x -> x.lease(0, 6, 0, 0, 101));
        first(7, "tenant, and the door is held", Streets::busy, Outcome.INDEX, x -> x.lease(16, -1, 0, 0, 1));
        first(7, "door, and 30 were made", () -> leased(30), Outcome.INDEX, x -> x.lease(36, 0, 0, 0, 1));
        first(7, "tenant, and 30 were made", () -> leased(30), Outcome.INDEX, x -> x.lease(30, 6, 0, 0, 1));
        first(7, "base, and 30 were made", () -> leased(30), Outcome.ARGUMENT, x -> x.lease(30, 0, 51, 0, 1));
        first(7, "rate, and 30 were made", () -> leased(30), Outcome.ARGUMENT, x -> x.lease(30, 0, 0, 51, 1));
        first(7, "hours, and 30 were made", () -> leased(30), Outcome.ARGUMENT, x -> x.lease(30, 0, 0, 0, 101));
        first(7, "base, and the door is held", Streets::busy, Outcome.ARGUMENT, x -> x.lease(16, 0, -1, 0, 1));
        first(7, "rate, and the door is held", Streets::busy, Outcome.ARGUMENT, x -> x.lease(16, 0, 0, -1, 1));
        first(7, "0 hours, and the door is held", Streets::busy, Outcome.ARGUMENT, x -> x.lease(16, 0, 0, 0, 0));
        first(7, "all three", () -> leased(30), Outcome.INDEX, x -> x.lease(0, 6, 51, 51, 0));
    }

    static LampCounts paidAll(int but) {
        LampCounts x = Streets.busy();
        for (int i = 0; i < 9; i++) {
            x.pay(1, 100000);
        }
        x.pay(1, 100000 - but);
        return x;
    }

    private static void payments() {
        first(9, "tenant and coins", Streets::busy, Outcome.INDEX, x -> x.pay(6, 0));
        first(9, "tenant and coins, too many", Streets::busy, Outcome.INDEX, x -> x.pay(-1, 100001));
        first(9, "0 coins, and all is paid", () -> paidAll(0), Outcome.ARGUMENT, x -> x.pay(1, 0));
        first(9, "100001 coins, and all is paid", () -> paidAll(0), Outcome.ARGUMENT, x -> x.pay(1, 100001));
        first(9, "the most coins", () -> paidAll(0), Outcome.ARGUMENT, x -> x.pay(1, Integer.MAX_VALUE));
    }

    private static void buskers() {
        first(10, "busker and skill", Streets::busy, Outcome.INDEX, x -> x.setSkill(6, 51));
        first(10, "busker and skill, too small", Streets::busy, Outcome.INDEX, x -> x.setSkill(-1, -1));
        first(12, "1001, and 50 are left", () -> told(50), Outcome.ARGUMENT, x -> x.lot(1001));
        first(12, "-1, and 50 are left", () -> told(50), Outcome.ARGUMENT, x -> x.lot(-1));
    }

    static LampCounts told(int lots) {
        LampCounts x = Streets.of(100);
        for (int i = 0; i < lots; i++) {
            x.lot(17 * i);
        }
        return x;
    }

    private static void answers() {
        first(14, "section and hour", Streets::busy, Outcome.INDEX, x -> x.steps(12, 3));
        first(15, "section and hour", Streets::busy, Outcome.INDEX, x -> x.crowd(-1, -1));
        first(17, "section and hour", Streets::busy, Outcome.INDEX, x -> x.reading(12, -1));
        first(18, "section and hour", Streets::busy, Outcome.INDEX, x -> x.taken(12, 200));
        first(19, "section and hour", Streets::busy, Outcome.INDEX, x -> x.count(-1, 3));
        first(20, "section and hour", Streets::busy, Outcome.INDEX, x -> x.countAnew(12, 3));
        first(28, "section and hour", Streets::busy, Outcome.INDEX, x -> x.player(12, 200));
    }
}
