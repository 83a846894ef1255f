/** The least and the largest answers that the promises can have: empty, full, below 0, and far from a wrap-around. */
final class AnswerTests {
    private static final int LARGEST_RENT = 50 + 50 * 75000 / 100;

    private AnswerTests() {
    }

    static void run() {
        before();
        largestFinding();
        largestReadings();
        quitHours();
        throughTheStreet();
        missed();
        numbersOfLeases();
        bills();
        debts();
        hoursAndCoins();
        numbersOfLots();
        anyHour();
    }

    private static void same(int promise, String what, long want, long got) {
        Check.same("promise " + promise + ", least and largest: " + what, want, got);
    }

    /** What is told as 'before' is what was set last, by a call that was not refused. */
    private static void before() {
        LampCounts x = new LampCounts();
        x.setPeople(11, 1000, 100);
        x.setLamp(11, true, 60);
        x.setSkill(5, 50);
        Outcome.of(() -> x.setPeople(11, 1001, 0));
        Outcome.of(() -> x.setPeople(11, 5, 101));
        Outcome.of(() -> x.setLamp(11, true, 61));
        Outcome.of(() -> x.setSkill(5, 51));
        same(2, "the most who came in", 1000, x.setPeople(11, 0, 0));
        same(2, "none came in", 0, x.setPeople(11, 0, 0));
        same(4, "the largest blind spot", 60, x.setLamp(11, true, 0));
        same(4, "the least blind spot", 0, x.setLamp(11, true, 0));
        same(10, "the largest skill", 50, x.setSkill(5, 0));
        same(10, "the least skill", 0, x.setSkill(5, 0));
        same(3, "no steps", 0, x.pass(50));
    }

    /** All lamps are broken, so that thirty leases lean on the one reading that turns up. */
    private static LampCounts thirtyLeases() {
        LampCounts x = new LampCounts();
        Streets.breakAll(x);
        for (int door = 0; door < 30; door++) {
            x.lease(door, door % 6, 50, 50, 100);
        }
        return Streets.passed(x, 100);
    }

    private static void largestFinding() {
        LampCounts x = thirtyLeases();
        for (int hour = 0; hour < 100; hour++) {
            int turned = hour;
            same(6, "thirty leases lean on it", 30 * 15000, x.turnUp(5, turned, 30000));
        }
        same(5, "thirty leases of a hundred hours", 30L * 100 * 22500, x.find(5, 0, 60));
        same(5, "nothing changes", 0, x.find(5, 0, 60));
        same(5, "and back, below 0", -30L * 100 * 22500, x.find(5, 0, 0));
        same(5, "from the last hour on", 30 * 22500, x.find(5, 99, 60));
        same(5, "from the hour of now on", 0, x.find(5, 100, 0));
        same(26, "all corrections of a lease", 100 * 15000 + 22500, x.corrected(29));
        same(27, "five leases of a tenant", 5 * (100 * 15050 + 22500), x.owes(5));
    }

    private static void largestReadings() {
        LampCounts x = Streets.lost();
        x.find(3, 0, 60);
        x.turnUp(3, 0, 30000);
        x.turnUp(4, 0, 0);
        same(17, "the largest", 30000, x.reading(3, 0));
        same(17, "the least", 0, x.reading(4, 0));
        same(17, "none", -1, x.reading(5, 0));
        same(18, "the largest", 60, x.taken(3, 199));
        same(18, "the least", 0, x.taken(4, 0));
        same(19, "the largest", 75000, x.count(3, 0));
        same(19, "the least", 0, x.count(4, 0));
        same(20, "the largest", 75000, x.countAnew(0, 0));
        same(20, "the least", 0, x.countAnew(11, 0));
    }

    private static void quitHours() {
        for (int ended : new int[] {0, 1, 98, 99}) {
            LampCounts x = new LampCounts();
            x.lease(0, 0, 1, 0, 100);
            Streets.passed(x, ended);
            same(8, ended + " of 100", ended, x.quit(0));
            same(8, ended + " are billed", ended, x.billed(0));
        }
    }

    private static void throughTheStreet() {
        LampCounts x = new LampCounts();
        x.pass(1);
        for (int section = 0; section < 12; section++) {
            x.setPeople(section, 1000, 0);
        }
        x.pass(1);
        same(16, "none", 0, x.through(0));
        same(16, "all", 12000, x.through(1));
        same(14, "the least", 0, x.steps(11, 0));
        same(14, "all pass the last section", 12000, x.steps(11, 1));
        same(15, "nobody plays", 0, x.crowd(11, 1));
    }

    private static void missed() {
        LampCounts x = Streets.passed(new LampCounts(), 1);
        same(21, "none", 0, x.missed(0));
        LampCounts y = new LampCounts();
        Streets.breakAll(y);
        y.pass(1);
        y.find(7, 0, 60);
        y.turnUp(7, 0, 30000);
        same(21, "too many in all sections", 12 * 75000, y.missed(0));
        LampCounts z = new LampCounts();
        Streets.breakAll(z);
        for (int section = 0; section < 12; section++) {
            z.setPeople(section, 1000, 0);
        }
        z.pass(1);
        same(21, "too few in all sections", 78000, z.missed(0));
    }

    private static void numbersOfLeases() {
        LampCounts x = new LampCounts();
        same(22, "none", 0, x.leases());
        for (int made = 0; made < 30; made++) {
            same(7, "numbers from 0 on", made, x.lease(35 - made, made % 6, 0, 0, 1));
            same(22, "so many", made + 1, x.leases());
        }
        Outcome.of(() -> x.lease(0, 0, 0, 0, 1));
        same(22, "a refused one", 30, x.leases());
    }

    private static void bills() {
        LampCounts x = new LampCounts();
        Streets.breakAll(x);
        x.lease(0, 0, 50, 50, 100);
        x.lease(3, 0, 0, 0, 100);
        Streets.passed(x, 100);
        same(24, "no reading, the base alone", 5000, x.billed(0));
        same(24, "base and rate of 0", 0, x.billed(1));
        x.find(0, 0, 60);
        for (int hour = 0; hour < 100; hour++) {
            x.turnUp(0, hour, 30000);
        }
        same(24, "the largest", 100 * LARGEST_RENT, x.billed(0));
        same(25, "the largest", 100 * LARGEST_RENT, x.billedAnew(0));
        same(26, "the largest", 100 * (LARGEST_RENT - 50), x.corrected(0));
        same(24, "still a base and rate of 0", 0, x.billed(1));
        same(25, "base and rate of 0", 0, x.billedAnew(1));
        same(26, "base and rate of 0", 0, x.corrected(1));
        LampCounts y = Streets.of(1000);
        y.find(0, 0, 60);
        y.lease(0, 0, 0, 50, 1);
        y.pass(1);
        y.find(0, 0, 0);
        same(26, "below 0", 500 - 1250, y.corrected(0));
        same(24, "what remains", 500, y.billed(0));
    }

    private static void debts() {
        LampCounts x = new LampCounts();
        for (int i = 1; i <= 10; i++) {
            same(9, "paid ahead", -100000 * i, x.pay(3, 100000));
        }
        same(27, "the least", -1000000, x.owes(3));
        same(27, "nothing", 0, x.owes(2));
        same(27, "nothing", 0, x.owes(4));
    }

    private static void hoursAndCoins() {
        LampCounts x = new LampCounts();
        for (int section = 0; section < 12; section++) {
            x.setPeople(section, 1000, 0);
        }
        x.setSkill(5, 50);
        for (int hour = 0; hour < 200; hour++) {
            x.ask(5, 11);
            x.pass(1);
        }
        same(29, "in all hours", 200, x.played(5));
        same(29, "in none", 0, x.played(4));
        same(30, "the most", 200 * 600, x.coins(5));
        same(30, "none", 0, x.coins(4));
        same(28, "the largest number", 5, x.player(11, 199));
        same(28, "none", -1, x.player(10, 199));
    }

    private static void numbersOfLots() {
        LampCounts x = new LampCounts();
        same(31, "none", 0, x.lots());
        for (int i = 1; i <= 50; i++) {
            same(12, "left then", i, x.lot(1000));
            same(31, "left", i, x.lots());
        }
        Outcome.of(() -> x.lot(0));
        Outcome.of(() -> x.lot(1001));
        same(31, "refused ones", 50, x.lots());
        for (int hour = 0; hour < 50; hour++) {
            x.ask(0, 0);
            x.ask(1, 0);
            x.ask(2, 1);
            x.pass(1);
        }
        same(31, "every second hour two have played as often", 25, x.lots());
    }

    private static void anyHour() {
        LampCounts x = Streets.ended(200);
        x.lease(0, 0, 0, 0, 100);
        int[] hours = {Integer.MIN_VALUE, -1, 0, 199, 200, 299, 300, Integer.MAX_VALUE};
        int[] due = {0, 0, 0, 0, 1, 1, 0, 0};
        for (int i = 0; i < hours.length; i++) {
            same(23, "hour " + hours[i], due[i], x.isOf(0, hours[i]) ? 1 : 0);
        }
        same(8, "none of them has ended", 0, x.quit(0));
        same(23, "quit", 0, x.isOf(0, 200) ? 1 : 0);
    }
}
