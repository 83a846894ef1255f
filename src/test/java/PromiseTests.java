/** Each promise by hand: ordinary inputs, the edges that the document names, and wrong inputs. */
final class PromiseTests {
    private PromiseTests() {
    }

    static void run() {
        people();
        lamps();
        leases();
        buskers();
        whatThereIs();
        leasesAsTheyAre();
        buskersAsTheyAre();
    }

    private static void people() {
        newObject();
        setPeople();
        pass();
    }

    private static void lamps() {
        setLamp();
        find();
        findAsOnesOwnLast();
        findToTheLimit();
        turnUp();
    }

    private static void leases() {
        lease();
        leaseOfAHeldDoor();
        leaseToTheLimit();
        quit();
        pay();
    }

    private static void buskers() {
        setSkill();
        ask();
        lot();
    }

    private static void whatThereIs() {
        hour();
        steps();
        crowd();
        through();
        reading();
        taken();
        count();
        countOfGaps();
        countAnew();
        missed();
    }

    private static void leasesAsTheyAre() {
        leasesMade();
        isOf();
        billed();
        billedAnew();
        corrected();
        owes();
    }

    private static void buskersAsTheyAre() {
        player();
        playerOfFewestHours();
        played();
        coins();
        lots();
    }

    private static void same(int promise, String what, long want, long got) {
        Check.same("promise " + promise + ", " + what, want, got);
    }

    private static void holds(int promise, String what, boolean held) {
        Check.holds("promise " + promise + ", " + what, held);
    }

    /** The methods of a section and an ended hour share the same wrong inputs. */
    private interface OfHour {
        int ask(LampCounts x, int section, int hour);
    }

    private static void wrongHours(int promise, OfHour asked) {
        LampCounts fresh = new LampCounts();
        Check.argument("promise " + promise + ", no hour has ended", () -> asked.ask(fresh, 0, 0));
        LampCounts x = Streets.passed(new LampCounts(), 200);
        Check.index("promise " + promise + ", section -1", () -> asked.ask(x, -1, 0));
        Check.index("promise " + promise + ", section 12", () -> asked.ask(x, 12, 0));
        Check.index("promise " + promise + ", the section goes first", () -> asked.ask(x, 12, 200));
        Check.argument("promise " + promise + ", hour -1", () -> asked.ask(x, 11, -1));
        Check.argument("promise " + promise + ", the hour of now", () -> asked.ask(x, 11, 200));
        Check.argument("promise " + promise + ", the largest hour", () -> asked.ask(x, 0, Integer.MAX_VALUE));
        Check.argument("promise " + promise + ", the least hour", () -> asked.ask(x, 0, Integer.MIN_VALUE));
        holds(promise, "the first and the last hour", Outcome.of(() -> asked.ask(x, 0, 0)) >= -1
                && Outcome.of(() -> asked.ask(x, 11, 199)) >= -1);
    }

    private interface OfOne {
        int ask(LampCounts x, int one);
    }

    private static void wrongIndex(int promise, int size, OfOne asked) {
        LampCounts x = new LampCounts();
        Check.index("promise " + promise + ", number -1", () -> asked.ask(x, -1));
        Check.index("promise " + promise + ", number " + size, () -> asked.ask(x, size));
        Check.index("promise " + promise + ", the largest number", () -> asked.ask(x, Integer.MAX_VALUE));
        Check.index("promise " + promise + ", the least number", () -> asked.ask(x, Integer.MIN_VALUE));
        if (size > 0) {
            holds(promise, "the last number", Outcome.of(() -> asked.ask(x, size - 1)) >= 0);
        }
    }

    private static void newObject() {
        LampCounts x = new LampCounts();
        same(1, "the hour", 0, x.hour());
        same(1, "leases", 0, x.leases());
        same(1, "lots", 0, x.lots());
        for (int section = 0; section < 12; section++) {
            same(1, "nothing found", 0, x.taken(section, 199));
            same(1, "no blind spot", 0, x.setLamp(section, true, 0));
        }
        same(1, "nobody comes in", 0, x.pass(1));
        for (int section = 0; section < 12; section++) {
            same(1, "the lamp works", 0, x.reading(section, 0));
            same(1, "nobody plays", -1, x.player(section, 0));
            same(1, "nobody came in", 0, x.setPeople(section, 0, 0));
        }
        for (int i = 0; i < 6; i++) {
            same(1, "owes nothing", 0, x.owes(i));
            same(1, "has not played", 0, x.played(i));
            same(1, "has no coins", 0, x.coins(i));
            same(1, "skill", 10, x.setSkill(i, 10));
        }
        LampCounts y = Streets.of(10);
        y.pass(1);
        same(1, "objects share nothing", 1, x.hour());
        same(1, "at first nobody leaves", 10, y.through(0));
    }

    private static void setPeople() {
        LampCounts x = new LampCounts();
        same(2, "before", 0, x.setPeople(2, 1000, 100));
        same(2, "before", 1000, x.setPeople(2, 10, 30));
        same(2, "another section", 0, x.setPeople(3, 5, 0));
        x.pass(1);
        same(2, "who come in", 10, x.steps(2, 0));
        same(2, "the share has left", 12, x.steps(3, 0));
        x.setPeople(2, 0, 0);
        x.pass(1);
        same(2, "set to 0", 0, x.steps(2, 1));
        same(2, "an ended hour stays", 10, x.steps(2, 0));
        Check.index("promise 2, section -1", () -> x.setPeople(-1, 0, 0));
        Check.index("promise 2, section 12", () -> x.setPeople(12, 1001, 0));
        Check.argument("promise 2, people -1", () -> x.setPeople(3, -1, 0));
        Check.argument("promise 2, people 1001", () -> x.setPeople(3, 1001, 0));
        Check.argument("promise 2, share -1", () -> x.setPeople(3, 0, -1));
        Check.argument("promise 2, share 101", () -> x.setPeople(3, 0, 101));
        same(2, "nothing changed", 5, x.setPeople(3, 1000, 100));
        same(2, "the last section", 0, x.setPeople(11, 7, 0));
    }

    private static void pass() {
        LampCounts x = Streets.of(10);
        same(3, "steps of one hour", 120, x.pass(1));
        same(3, "steps of fifty", 6000, x.pass(50));
        same(3, "the hour", 51, x.hour());
        Check.argument("promise 3, 0 hours", () -> x.pass(0));
        Check.argument("promise 3, -1 hours", () -> x.pass(-1));
        Check.argument("promise 3, 51 hours", () -> x.pass(51));
        Check.argument("promise 3, the most hours", () -> x.pass(Integer.MAX_VALUE));
        x.pass(50);
        x.pass(50);
        Check.state("promise 3, one more than 200", () -> x.pass(50));
        same(3, "nothing changed", 151, x.hour());
        same(3, "up to 200", 49 * 120, x.pass(49));
        Check.state("promise 3, more than 200", () -> x.pass(1));
        Check.argument("promise 3, the range goes first", () -> x.pass(51));
        same(3, "200 have ended", 200, x.hour());
        LampCounts y = Streets.of(1000);
        y.setSkill(0, 50);
        y.ask(0, 0);
        same(3, "with the crowd", 1500 + 11 * 500, y.pass(1));
    }

    private static void setLamp() {
        LampCounts x = Streets.of(999);
        same(4, "before", 0, x.setLamp(1, true, 60));
        same(4, "before", 60, x.setLamp(1, true, 37));
        x.setLamp(2, false, 20);
        x.pass(1);
        same(4, "the hidden are rounded down", 999 - 369, x.reading(1, 0));
        same(4, "a broken one", -1, x.reading(2, 0));
        same(4, "before, of a broken one", 20, x.setLamp(2, true, 20));
        x.pass(1);
        same(4, "mended, from now on", 999 - 199, x.reading(2, 1));
        same(4, "an ended hour stays", -1, x.reading(2, 0));
        same(4, "the desk does not know", 0, x.taken(1, 0));
        Check.index("promise 4, section -1", () -> x.setLamp(-1, false, 0));
        Check.index("promise 4, section 12", () -> x.setLamp(12, false, 61));
        Check.argument("promise 4, blind -1", () -> x.setLamp(1, false, -1));
        Check.argument("promise 4, blind 61", () -> x.setLamp(1, false, 61));
        same(4, "nothing changed", 37, x.setLamp(1, true, 37));
        x.pass(1);
        same(4, "it still works", 630, x.reading(1, 2));
    }

    private static void find() {
        LampCounts x = Streets.of(100);
        x.lease(0, 0, 1, 50, 10);
        x.lease(1, 1, 2, 10, 2);
        x.lease(3, 1, 0, 50, 10);
        x.pass(3);
        same(5, "from hour 1 on", 2 * 50 + 10, x.find(0, 1, 50));
        same(5, "hour 0 stays", 100, x.count(0, 0));
        same(5, "hour 1", 200, x.count(0, 1));
        same(5, "hour 2", 200, x.count(0, 2));
        same(5, "the other section stays", 100, x.count(1, 2));
        same(5, "the hour of now", 0, x.find(0, 3, 60));
        same(5, "nothing new", 0, x.find(0, 1, 50));
        same(5, "back", -110, x.find(0, 1, 0));
        same(5, "for hours that have not ended too", 0, x.taken(0, 199));
        x.find(0, 3, 20);
        x.pass(1);
        same(5, "the hour that ended then", 125, x.count(0, 3));
        Check.index("promise 5, section -1", () -> x.find(-1, 0, 0));
        Check.index("promise 5, section 12", () -> x.find(12, 5, 0));
        Check.argument("promise 5, hour -1", () -> x.find(0, -1, 10));
        Check.argument("promise 5, the hour behind now", () -> x.find(0, 5, 10));
        Check.argument("promise 5, blind -1", () -> x.find(0, 0, -1));
        Check.argument("promise 5, blind 61", () -> x.find(0, 0, 61));
        same(5, "nothing changed", 0, x.taken(0, 0));
        LampCounts end = Streets.passed(Streets.of(10), 200);
        same(5, "from hour 200 on", 0, end.find(0, 200, 60));
        same(5, "the last hour stays", 0, end.taken(0, 199));
        Check.argument("promise 5, hour 201", () -> end.find(0, 201, 60));
    }

    /** What was found last counts, wherever its first hour lies. */
    private static void findAsOnesOwnLast() {
        LampCounts x = Streets.passed(Streets.of(100), 4);
        x.find(3, 2, 50);
        x.find(3, 1, 20);
        same(5, "later in time, found before", 125, x.count(3, 3));
        x.find(3, 3, 0);
        same(5, "found last", 100, x.count(3, 3));
        same(5, "ahead of it", 125, x.count(3, 2));
        same(5, "ahead of all", 100, x.count(3, 0));
        LampCounts gaps = Streets.of(100);
        gaps.setLamp(1, false, 0);
        gaps.setLamp(2, false, 0);
        gaps.lease(5, 0, 0, 50, 5);
        gaps.lease(8, 0, 0, 50, 5);
        gaps.lease(9, 0, 0, 50, 5);
        gaps.pass(1);
        same(5, "gaps lean on it", 2 * 25, gaps.find(0, 0, 50));
        same(5, "a gap", 150, gaps.count(1, 0));
        same(5, "the gap behind it", 150, gaps.count(2, 0));
        same(5, "behind the gap", 100, gaps.count(3, 0));
        same(5, "of a lamp without a reading", 0, gaps.find(1, 0, 60));
        same(5, "gaps lean on both sides", 2 * 25 + 50, gaps.find(3, 0, 50));
        same(5, "the gap again", 200, gaps.count(1, 0));
    }

    private static void findToTheLimit() {
        LampCounts x = new LampCounts();
        for (int i = 0; i < 60; i++) {
            same(5, "finding " + i, 0, x.find(i % 12, 0, 1 + i % 60));
        }
        Check.state("promise 5, 60 were found", () -> x.find(0, 0, 5));
        Check.argument("promise 5, the range goes first", () -> x.find(0, 1, 5));
        Check.index("promise 5, the section goes first", () -> x.find(12, 1, 5));
        same(5, "nothing changed", 49, x.taken(0, 0));
        same(5, "the last one", 60, x.taken(11, 0));
    }

    private static void turnUp() {
        LampCounts x = Streets.of(100);
        x.setLamp(1, false, 0);
        x.setLamp(2, false, 0);
        x.lease(3, 0, 5, 50, 5);
        x.lease(6, 1, 5, 50, 5);
        x.lease(9, 1, 5, 50, 5);
        x.pass(2);
        same(6, "own count and the gap", 100 + 50, x.turnUp(1, 1, 300));
        same(6, "the reading", 300, x.reading(1, 1));
        same(6, "the count", 300, x.count(1, 1));
        same(6, "the gap behind it", 200, x.count(2, 1));
        same(6, "the other hour stays", 100, x.count(1, 0));
        same(6, "corrected", 100, x.corrected(0));
        same(6, "what was found counts", 0, x.find(2, 0, 60));
        same(6, "a reading of 0", -100, x.turnUp(2, 1, 0));
        same(6, "a count of 0", 0, x.count(2, 1));
        same(6, "with a blind spot", 37450 + 18725, x.turnUp(2, 0, 30000));
        same(6, "the largest count", 75000, x.count(2, 0));
        same(6, "the gap ahead of it", (100 + 75000) / 2, x.count(1, 0));
        Check.state("promise 6, it turned up", () -> x.turnUp(2, 0, 30000));
        Check.state("promise 6, it was never lost", () -> x.turnUp(0, 0, 100));
        Check.argument("promise 6, the range goes first", () -> x.turnUp(0, 0, 30001));
        Check.index("promise 6, section -1", () -> x.turnUp(-1, 0, 0));
        Check.index("promise 6, section 12", () -> x.turnUp(12, 2, 0));
        Check.argument("promise 6, hour -1", () -> x.turnUp(1, -1, 0));
        Check.argument("promise 6, the hour of now", () -> x.turnUp(1, 2, 0));
        Check.argument("promise 6, reading -1", () -> x.turnUp(1, 0, -1));
        Check.argument("promise 6, reading 30001", () -> x.turnUp(1, 0, 30001));
        same(6, "nothing changed", -1, x.reading(1, 0));
        LampCounts end = Streets.of(0);
        Streets.breakAll(end);
        Streets.passed(end, 200);
        end.turnUp(11, 198, 600);
        same(6, "the hour behind it stays", 0, end.count(0, 199));
        end.turnUp(0, 199, 500);
        same(6, "the hour ahead of it stays", 600, end.count(11, 198));
        same(6, "in the last hour", 0, end.turnUp(11, 199, 100));
        same(6, "the gap of the last hour", 300, end.count(10, 199));
    }

    private static void lease() {
        LampCounts x = Streets.of(250);
        same(7, "its number", 0, x.lease(35, 5, 50, 50, 100));
        same(7, "its number", 1, x.lease(0, 0, 0, 0, 1));
        x.pass(1);
        same(7, "number", 2, x.lease(1, 0, 0, 1, 1));
        x.pass(1);
        same(7, "base and rate", 2 * (50 + 125), x.billed(0));
        same(7, "the rent is rounded down", 2, x.billed(2));
        same(7, "base and rate of 0", 0, x.billed(1));
        Check.index("promise 7, door -1", () -> x.lease(-1, 0, 0, 0, 1));
        Check.index("promise 7, door 36", () -> x.lease(36, 0, 51, 0, 1));
        Check.index("promise 7, tenant -1", () -> x.lease(0, -1, 0, 0, 1));
        Check.index("promise 7, tenant 6", () -> x.lease(0, 6, 0, 51, 1));
        Check.argument("promise 7, base -1", () -> x.lease(0, 0, -1, 0, 1));
        Check.argument("promise 7, base 51", () -> x.lease(0, 0, 51, 0, 1));
        Check.argument("promise 7, rate -1", () -> x.lease(0, 0, 0, -1, 1));
        Check.argument("promise 7, rate 51", () -> x.lease(0, 0, 0, 51, 1));
        Check.argument("promise 7, 0 hours", () -> x.lease(0, 0, 0, 0, 0));
        Check.argument("promise 7, 101 hours", () -> x.lease(0, 0, 0, 0, 101));
        same(7, "nothing changed", 3, x.leases());
        LampCounts end = Streets.passed(new LampCounts(), 200);
        same(7, "behind the last hour", 0, end.lease(0, 0, 50, 0, 100));
        same(7, "nothing is billed", 0, end.billed(0));
        Check.state("promise 7, the door is held there too", () -> end.lease(0, 0, 50, 0, 100));
    }

    private static void leaseOfAHeldDoor() {
        LampCounts x = new LampCounts();
        x.lease(4, 0, 1, 0, 3);
        Check.state("promise 7, another one has the door", () -> x.lease(4, 0, 1, 0, 1));
        Check.argument("promise 7, the range goes first", () -> x.lease(4, 0, 1, 51, 1));
        same(7, "another door of the section", 1, x.lease(5, 0, 1, 0, 3));
        x.pass(2);
        Check.state("promise 7, in its last hour", () -> x.lease(4, 1, 1, 0, 1));
        x.pass(1);
        same(7, "behind its last hour", 2, x.lease(4, 1, 1, 0, 2));
        x.quit(2);
        same(7, "behind a quit one", 3, x.lease(4, 1, 1, 0, 2));
        Check.state("promise 7, the newer one has it", () -> x.lease(4, 1, 1, 0, 2));
    }

    private static void leaseToTheLimit() {
        LampCounts x = new LampCounts();
        for (int i = 0; i < 30; i++) {
            same(7, "lease " + i, i, x.lease(i, i % 6, 1, 1, 1));
        }
        Check.state("promise 7, 30 were made", () -> x.lease(30, 0, 1, 1, 1));
        x.pass(1);
        Check.state("promise 7, though they have ended", () -> x.lease(0, 0, 1, 1, 1));
        Check.index("promise 7, the door goes first", () -> x.lease(36, 0, 1, 1, 1));
        same(7, "30 stand", 30, x.leases());
    }

    private static void quit() {
        LampCounts x = Streets.of(100);
        x.lease(0, 0, 10, 0, 5);
        x.lease(1, 0, 10, 0, 2);
        x.lease(2, 0, 10, 0, 5);
        same(8, "none has ended", 0, x.quit(2));
        x.pass(2);
        same(8, "two have ended", 2, x.quit(0));
        holds(8, "the hours that ended stay", x.isOf(0, 1));
        holds(8, "the hour of now is none", !x.isOf(0, 2));
        Check.state("promise 8, it was ended", () -> x.quit(0));
        Check.state("promise 8, its last hour has ended", () -> x.quit(1));
        Check.state("promise 8, it never had an hour", () -> x.quit(2));
        x.pass(1);
        Check.state("promise 8, it was ended an hour ago", () -> x.quit(0));
        same(8, "nothing is billed behind it", 20, x.billed(0));
        same(8, "nothing at all", 0, x.billed(2));
        Check.index("promise 8, lease -1", () -> x.quit(-1));
        Check.index("promise 8, lease 3", () -> x.quit(3));
        x.lease(0, 0, 1, 50, 3);
        x.pass(1);
        same(8, "one has ended", 1, x.quit(3));
        same(8, "its ended hours are corrected", 50, x.find(0, 0, 50));
        same(8, "the correction", 50, x.corrected(3));
    }

    private static void pay() {
        LampCounts x = Streets.of(100);
        x.lease(0, 3, 10, 0, 5);
        x.pass(1);
        same(9, "less than is owed", 9, x.pay(3, 1));
        same(9, "more than is owed", -91, x.pay(3, 100));
        same(9, "another tenant", -5, x.pay(2, 5));
        Check.index("promise 9, tenant -1", () -> x.pay(-1, 1));
        Check.index("promise 9, tenant 6", () -> x.pay(6, 0));
        Check.argument("promise 9, 0 coins", () -> x.pay(0, 0));
        Check.argument("promise 9, -1 coins", () -> x.pay(0, -1));
        Check.argument("promise 9, 100001 coins", () -> x.pay(0, 100001));
        for (int i = 1; i < 10; i++) {
            same(9, "payment " + i, -i * 100000, x.pay(0, 100000));
        }
        x.pay(0, 99999);
        Check.state("promise 9, one too many", () -> x.pay(0, 2));
        same(9, "just the most", -1000000, x.pay(0, 1));
        Check.state("promise 9, more than the most", () -> x.pay(0, 1));
        Check.argument("promise 9, the range goes first", () -> x.pay(0, 100001));
        same(9, "nothing changed", -1000000, x.owes(0));
        same(9, "the others still pay", -6, x.pay(2, 1));
    }

    private static void setSkill() {
        LampCounts x = Streets.of(100);
        same(10, "before", 10, x.setSkill(5, 50));
        same(10, "before", 50, x.setSkill(5, 33));
        x.ask(5, 0);
        x.ask(4, 1);
        x.pass(1);
        same(10, "of those who pass", 33, x.crowd(0, 0));
        same(10, "rounded down, by the skill at first", 6, x.crowd(1, 0));
        same(10, "to 0", 33, x.setSkill(5, 0));
        x.ask(5, 0);
        x.pass(1);
        same(10, "skill 0", 0, x.crowd(0, 1));
        same(10, "skill 0 plays all the same", 5, x.player(0, 1));
        Check.index("promise 10, busker -1", () -> x.setSkill(-1, 0));
        Check.index("promise 10, busker 6", () -> x.setSkill(6, 51));
        Check.argument("promise 10, skill -1", () -> x.setSkill(4, -1));
        Check.argument("promise 10, skill 51", () -> x.setSkill(4, 51));
        same(10, "nothing changed", 10, x.setSkill(4, 10));
    }

    private static void ask() {
        LampCounts x = Streets.of(100);
        for (int section = 0; section < 12; section++) {
            same(11, "for how many", section + 1, x.ask(2, section));
        }
        same(11, "another one", 1, x.ask(3, 11));
        Check.state("promise 11, asks already", () -> x.ask(2, 11));
        Check.index("promise 11, busker -1", () -> x.ask(-1, 0));
        Check.index("promise 11, busker 6", () -> x.ask(6, 0));
        Check.index("promise 11, section -1", () -> x.ask(0, -1));
        Check.index("promise 11, section 12", () -> x.ask(0, 12));
        x.pass(1);
        same(11, "plays once", 2, x.player(0, 0));
        same(11, "one section is left over", -1, x.player(1, 0));
        same(11, "the other one plays there", 3, x.player(11, 0));
        same(11, "all asking is over", 1, x.ask(2, 11));
        x.pass(2);
        same(11, "for one hour alone", -1, x.player(11, 2));
    }

    private static void lot() {
        LampCounts x = new LampCounts();
        same(12, "left", 1, x.lot(0));
        same(12, "left", 2, x.lot(1000));
        Check.argument("promise 12, number -1", () -> x.lot(-1));
        Check.argument("promise 12, number 1001", () -> x.lot(1001));
        for (int i = 2; i < 50; i++) {
            same(12, "left", i + 1, x.lot(i));
        }
        Check.state("promise 12, 50 are left", () -> x.lot(0));
        Check.argument("promise 12, the range goes first", () -> x.lot(1001));
        x.ask(4, 0);
        x.ask(5, 0);
        x.ask(3, 0);
        x.pass(1);
        same(12, "one is used up: 0", 3, x.player(0, 0));
        same(12, "there is room again", 50, x.lot(1));
        x.ask(0, 7);
        x.ask(1, 7);
        x.ask(2, 7);
        x.pass(1);
        same(12, "the next one: 1000 by 3", 1, x.player(7, 1));
    }

    private static void hour() {
        LampCounts x = new LampCounts();
        same(13, "at first", 0, x.hour());
        x.pass(1);
        same(13, "then", 1, x.hour());
        x.pass(50);
        same(13, "then", 51, x.hour());
        Outcome.of(() -> x.pass(51));
        same(13, "a refused call", 51, x.hour());
    }

    private static void steps() {
        LampCounts x = new LampCounts();
        x.setPeople(0, 15, 10);
        x.setPeople(1, 3, 100);
        x.setPeople(2, 8, 0);
        x.setSkill(0, 30);
        x.ask(0, 0);
        x.pass(1);
        same(14, "those who pass and the crowd", 15 + 4, x.steps(0, 0));
        same(14, "the share of the others leaves, rounded down", 11 - 1 + 3, x.steps(1, 0));
        same(14, "all have left", 8, x.steps(2, 0));
        same(14, "they go on", 8, x.steps(11, 0));
        x.pass(1);
        same(14, "without a busker", 15, x.steps(0, 1));
        same(14, "who stay go on", 14 + 3, x.steps(1, 1));
        same(14, "an ended hour stays", 19, x.steps(0, 0));
        wrongHours(14, LampCounts::steps);
    }

    private static void crowd() {
        LampCounts x = Streets.of(99);
        x.setSkill(1, 50);
        x.ask(1, 0);
        x.ask(0, 1);
        x.pass(1);
        same(15, "rounded down", 49, x.crowd(0, 0));
        same(15, "of those who are left", 5, x.crowd(1, 0));
        same(15, "where nobody plays", 0, x.crowd(2, 0));
        x.pass(1);
        same(15, "the next hour", 0, x.crowd(0, 1));
        wrongHours(15, LampCounts::crowd);
    }

    private static void through() {
        LampCounts x = Streets.of(40);
        x.setPeople(11, 9, 50);
        x.pass(1);
        same(16, "those who stay", 25, x.through(0));
        x.ask(0, 11);
        x.setSkill(0, 50);
        x.pass(1);
        same(16, "those who stop go on to none", 25 - 12, x.through(1));
        same(16, "an ended hour stays", 25, x.through(0));
        x.setPeople(11, 9, 100);
        x.pass(1);
        same(16, "none", 0, x.through(2));
        Check.argument("promise 16, hour -1", () -> x.through(-1));
        Check.argument("promise 16, the hour of now", () -> x.through(3));
        LampCounts end = Streets.passed(Streets.of(40), 200);
        same(16, "the last hour", 40, end.through(199));
        Check.argument("promise 16, hour 200", () -> end.through(200));
        Check.argument("promise 16, no hour has ended", () -> new LampCounts().through(0));
    }

    private static void reading() {
        LampCounts x = Streets.of(101);
        x.setLamp(1, true, 60);
        x.setLamp(2, false, 0);
        x.ask(0, 0);
        x.pass(1);
        same(17, "the crowd is read", 111, x.reading(0, 0));
        same(17, "the hidden are rounded down", 91 - 54, x.reading(1, 0));
        same(17, "none", -1, x.reading(2, 0));
        x.find(1, 0, 20);
        same(17, "findings leave it", 37, x.reading(1, 0));
        x.turnUp(2, 0, 4);
        same(17, "it turned up", 4, x.reading(2, 0));
        wrongHours(17, LampCounts::reading);
    }

    private static void taken() {
        LampCounts x = Streets.passed(new LampCounts(), 3);
        x.setLamp(0, true, 50);
        same(18, "nothing was found", 0, x.taken(0, 199));
        x.find(0, 1, 30);
        same(18, "ahead of it", 0, x.taken(0, 0));
        same(18, "from it on", 30, x.taken(0, 1));
        same(18, "not ended", 30, x.taken(0, 199));
        same(18, "another section", 0, x.taken(1, 199));
        x.find(0, 3, 60);
        x.find(0, 2, 7);
        same(18, "what was found last", 7, x.taken(0, 3));
        same(18, "the one before it", 30, x.taken(0, 1));
        Check.index("promise 18, section -1", () -> x.taken(-1, 0));
        Check.index("promise 18, section 12", () -> x.taken(12, 200));
        Check.argument("promise 18, hour -1", () -> x.taken(0, -1));
        Check.argument("promise 18, hour 200", () -> x.taken(0, 200));
        LampCounts end = Streets.passed(new LampCounts(), 200);
        Check.argument("promise 18, hour 200 at the end", () -> end.taken(0, 200));
    }

    private static void count() {
        LampCounts x = Streets.of(1000);
        x.setLamp(0, true, 33);
        x.find(0, 0, 33);
        x.find(1, 0, 7);
        x.pass(1);
        same(19, "the true blind spot", 1000, x.count(0, 0));
        same(19, "rounded down", 100000 / 93, x.count(1, 0));
        same(19, "without a finding", 1000, x.count(2, 0));
        x.find(0, 0, 60);
        same(19, "as it is found", 67000 / 40, x.count(0, 0));
        wrongHours(19, LampCounts::count);
    }

    private static void countOfGaps() {
        LampCounts x = new LampCounts();
        Streets.breakAll(x);
        x.pass(1);
        for (int section = 0; section < 12; section++) {
            same(19, "without any reading", 0, x.count(section, 0));
        }
        x.turnUp(2, 0, 11);
        same(19, "from behind alone", 11, x.count(0, 0));
        same(19, "from ahead alone", 11, x.count(11, 0));
        x.turnUp(8, 0, 20);
        same(19, "half of both, rounded down", 15, x.count(3, 0));
        same(19, "however far", 15, x.count(7, 0));
        same(19, "ahead of both", 11, x.count(1, 0));
        same(19, "behind both", 20, x.count(9, 0));
        x.turnUp(5, 0, 100);
        same(19, "from the nearest", 55, x.count(4, 0));
        same(19, "from the nearest behind", 60, x.count(6, 0));
        x.find(5, 0, 50);
        same(19, "from the count, not the reading", 105, x.count(3, 0));
        same(19, "beyond the next reading", 20, x.count(11, 0));
        same(19, "beyond the reading ahead", 11, x.count(0, 0));
        LampCounts y = Streets.of(50);
        Streets.breakAll(y);
        y.setLamp(1, true, 0);
        y.setLamp(3, true, 40);
        y.pass(1);
        same(19, "filled when the hour ends, from behind alone", 50, y.count(0, 0));
        same(19, "filled when the hour ends, from both sides", 40, y.count(2, 0));
        same(19, "filled when the hour ends, from ahead alone", 30, y.count(11, 0));
    }

    private static void countAnew() {
        LampCounts x = Streets.of(777);
        x.setLamp(3, false, 0);
        x.setLamp(4, false, 0);
        x.setLamp(5, true, 40);
        x.setLamp(11, false, 0);
        x.pass(2);
        x.find(2, 1, 9);
        x.find(5, 0, 39);
        x.find(5, 1, 41);
        for (int section = 0; section < 12; section++) {
            same(20, "the same", x.count(section, 0), x.countAnew(section, 0));
            same(20, "the same", x.count(section, 1), x.countAnew(section, 1));
        }
        same(20, "of a reading", 46700 / 59, x.countAnew(5, 1));
        same(20, "of a gap", (77700 / 91 + 46700 / 59) / 2, x.countAnew(3, 1));
        same(20, "of a gap at the end", 777, x.countAnew(11, 1));
        x.turnUp(4, 1, 12);
        same(20, "of what turned up", 12, x.countAnew(4, 1));
        same(20, "of the gap that leans on it", (77700 / 91 + 12) / 2, x.countAnew(3, 1));
        Streets.breakAll(x);
        x.pass(1);
        same(20, "without any reading", 0, x.countAnew(6, 2));
        wrongHours(20, LampCounts::countAnew);
    }

    private static void missed() {
        LampCounts x = Streets.of(100);
        x.pass(1);
        same(21, "nothing", 0, x.missed(0));
        x.find(0, 0, 50);
        same(21, "too many", 100, x.missed(0));
        x.setLamp(4, true, 30);
        x.pass(1);
        same(21, "too many and too few", 130, x.missed(1));
        x.find(0, 1, 0);
        same(21, "too few", 30, x.missed(1));
        same(21, "an hour that was not found anew", 100, x.missed(0));
        x.ask(0, 0);
        x.pass(1);
        same(21, "the crowd counts, the lamp of 90 misses 27", 27, x.missed(2));
        Streets.breakAll(x);
        x.pass(1);
        same(21, "all of them", 1200, x.missed(3));
        Check.argument("promise 21, hour -1", () -> x.missed(-1));
        Check.argument("promise 21, the hour of now", () -> x.missed(4));
        LampCounts end = Streets.passed(Streets.of(40), 200);
        same(21, "the last hour", 0, end.missed(199));
        Check.argument("promise 21, hour 200", () -> end.missed(200));
        Check.argument("promise 21, no hour has ended", () -> new LampCounts().missed(0));
    }

    private static void leasesMade() {
        LampCounts x = new LampCounts();
        same(22, "none", 0, x.leases());
        x.lease(0, 0, 0, 0, 1);
        x.lease(1, 0, 0, 0, 1);
        same(22, "two", 2, x.leases());
        Outcome.of(() -> x.lease(1, 0, 0, 0, 1));
        same(22, "a refused one", 2, x.leases());
        x.quit(1);
        x.pass(1);
        same(22, "ended ones count", 2, x.leases());
    }

    private static void isOf() {
        LampCounts x = Streets.passed(new LampCounts(), 5);
        x.lease(0, 0, 0, 0, 3);
        holds(23, "ahead of it", !x.isOf(0, 4));
        holds(23, "its first", x.isOf(0, 5));
        holds(23, "its last", x.isOf(0, 7));
        holds(23, "behind it", !x.isOf(0, 8));
        holds(23, "any hour", !x.isOf(0, Integer.MIN_VALUE) && !x.isOf(0, Integer.MAX_VALUE) && !x.isOf(0, -1));
        x.pass(1);
        x.quit(0);
        holds(23, "quit: an hour that ended", x.isOf(0, 5));
        holds(23, "quit: the hour of then", !x.isOf(0, 6));
        Check.index("promise 23, lease 1", () -> x.isOf(1, 0) ? 1 : 0);
        wrongIndex(23, 0, (y, lease) -> y.isOf(lease, 0) ? 1 : 0);
        LampCounts end = Streets.passed(new LampCounts(), 199);
        end.lease(0, 0, 0, 0, 100);
        holds(23, "hours that will never end", end.isOf(0, 199) && end.isOf(0, 200) && end.isOf(0, 298));
        holds(23, "behind those", !end.isOf(0, 299));
    }

    private static void billed() {
        LampCounts x = Streets.of(199);
        x.lease(0, 0, 3, 1, 2);
        same(24, "no hour has ended", 0, x.billed(0));
        x.pass(1);
        same(24, "one hour", 3 + 1, x.billed(0));
        x.pass(1);
        same(24, "each hour is rounded down by itself", 8, x.billed(0));
        x.pass(1);
        same(24, "not behind its end", 8, x.billed(0));
        x.find(0, 0, 50);
        same(24, "with the corrections", 2 * (3 + 3), x.billed(0));
        x.lease(34, 0, 0, 50, 2);
        x.setPeople(10, 0, 100);
        x.setPeople(11, 7, 0);
        x.pass(1);
        same(24, "by the section of its door", 3, x.billed(1));
        Check.index("promise 24, lease 2", () -> x.billed(2));
        wrongIndex(24, 0, LampCounts::billed);
    }

    private static void billedAnew() {
        LampCounts x = Streets.of(199);
        x.setLamp(1, false, 0);
        x.lease(0, 0, 3, 1, 2);
        x.lease(4, 0, 3, 7, 50);
        same(25, "no hour has ended", 0, x.billedAnew(0));
        x.pass(3);
        same(25, "its hours", 8, x.billedAnew(0));
        same(25, "of a gap", 3 * (3 + 13), x.billedAnew(1));
        x.find(0, 1, 50);
        same(25, "with what was found", 4 + 6, x.billedAnew(0));
        same(25, "the same as is kept", x.billed(1), x.billedAnew(1));
        x.turnUp(1, 0, 1000);
        same(25, "with what turned up", x.billed(1), x.billedAnew(1));
        x.quit(1);
        x.pass(1);
        same(25, "not behind its end", x.billed(1), x.billedAnew(1));
        Check.index("promise 25, lease 2", () -> x.billedAnew(2));
        wrongIndex(25, 0, LampCounts::billedAnew);
        LampCounts end = Streets.passed(Streets.of(100), 199);
        end.lease(0, 0, 1, 1, 100);
        end.pass(1);
        same(25, "hours that will never end", 2, end.billedAnew(0));
    }

    private static void corrected() {
        LampCounts x = Streets.of(100);
        x.find(0, 0, 50);
        x.lease(0, 0, 1, 10, 2);
        x.lease(3, 0, 1, 10, 2);
        x.pass(2);
        same(26, "what was found before is no correction", 0, x.corrected(0));
        x.find(0, 1, 0);
        same(26, "below 0", -10, x.corrected(0));
        x.find(0, 0, 60);
        same(26, "their sum", -10 + 5 + 15, x.corrected(0));
        same(26, "another section", 0, x.corrected(1));
        x.find(0, 0, 60);
        same(26, "nothing new", 10, x.corrected(0));
        Check.index("promise 26, lease 2", () -> x.corrected(2));
        wrongIndex(26, 0, LampCounts::corrected);
    }

    private static void owes() {
        LampCounts x = Streets.of(100);
        x.lease(0, 5, 1, 10, 2);
        x.lease(3, 5, 2, 20, 2);
        x.lease(6, 4, 50, 50, 2);
        x.pass(1);
        same(27, "all leases of the tenant", 11 + 22, x.owes(5));
        x.find(0, 0, 50);
        same(27, "with the corrections", 21 + 22, x.owes(5));
        x.pay(5, 50);
        same(27, "below 0", -7, x.owes(5));
        same(27, "another tenant", 100, x.owes(4));
        same(27, "without a lease", 0, x.owes(0));
        wrongIndex(27, 6, LampCounts::owes);
    }

    private static void player() {
        LampCounts x = new LampCounts();
        x.ask(5, 11);
        x.ask(0, 0);
        x.pass(1);
        same(28, "the last of both", 5, x.player(11, 0));
        same(28, "the first of both", 0, x.player(0, 0));
        same(28, "none", -1, x.player(5, 0));
        x.pass(1);
        same(28, "the next hour", -1, x.player(11, 1));
        same(28, "an ended hour stays", 5, x.player(11, 0));
        wrongHours(28, LampCounts::player);
    }

    private static void playerOfFewestHours() {
        LampCounts x = new LampCounts();
        x.ask(0, 0);
        x.pass(1);
        x.ask(0, 0);
        x.ask(1, 0);
        x.ask(2, 0);
        x.lot(3);
        x.pass(1);
        same(28, "of the fewest two by a lot", 2, x.player(0, 1));
        x.ask(0, 4);
        x.ask(1, 4);
        x.ask(0, 5);
        x.ask(1, 5);
        x.ask(2, 5);
        x.lot(0);
        x.lot(1);
        x.pass(1);
        same(28, "the fewest, without a lot", 1, x.player(4, 2));
        same(28, "who plays is out, hours as they were", 0, x.player(5, 2));
        same(28, "one lot was used", 1, x.lots());
        x.ask(3, 1);
        x.ask(4, 1);
        x.ask(3, 2);
        x.ask(4, 2);
        x.ask(3, 3);
        x.pass(1);
        same(28, "by the lot", 4, x.player(1, 3));
        same(28, "the other one then, alone", 3, x.player(2, 3));
        same(28, "none is left", -1, x.player(3, 3));
    }

    private static void played() {
        LampCounts x = new LampCounts();
        x.ask(5, 11);
        x.ask(5, 3);
        same(29, "asking is not playing", 0, x.played(5));
        x.pass(2);
        same(29, "one hour", 1, x.played(5));
        x.ask(5, 11);
        x.pass(1);
        same(29, "an hour more", 2, x.played(5));
        same(29, "another one", 0, x.played(0));
        wrongIndex(29, 6, LampCounts::played);
    }

    private static void coins() {
        LampCounts x = Streets.of(199);
        x.ask(5, 0);
        x.pass(1);
        same(30, "one for each 10", 1, x.coins(5));
        x.ask(5, 0);
        x.pass(1);
        same(30, "each hour by itself", 2, x.coins(5));
        x.setPeople(0, 200, 0);
        x.ask(5, 0);
        x.pass(1);
        same(30, "just 20", 4, x.coins(5));
        same(30, "another one", 0, x.coins(0));
        wrongIndex(30, 6, LampCounts::coins);
    }

    private static void lots() {
        LampCounts x = new LampCounts();
        same(31, "none", 0, x.lots());
        x.lot(7);
        x.lot(8);
        same(31, "two", 2, x.lots());
        x.ask(0, 0);
        x.pass(1);
        same(31, "one busker needs none", 2, x.lots());
        x.ask(1, 0);
        x.ask(2, 0);
        x.pass(1);
        same(31, "one is used up", 1, x.lots());
        x.ask(3, 0);
        x.ask(4, 0);
        x.ask(5, 0);
        x.ask(3, 1);
        x.ask(4, 1);
        x.ask(5, 1);
        x.pass(1);
        same(31, "none is left", 0, x.lots());
        same(31, "the last lot: 8 by 3", 5, x.player(0, 2));
        same(31, "then it is 0", 3, x.player(1, 2));
        same(31, "not below 0", 0, x.lots());
    }
}
