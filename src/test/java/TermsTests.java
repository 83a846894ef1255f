/** Each sentence of 'Terms' that names a boundary: what happens just on it, and just beside it. */
final class TermsTests {
    private TermsTests() {
    }

    static void run() {
        street();
        lamps();
        counts();
        leases();
        buskers();
    }

    private static void street() {
        sections();
        hours();
        emptyStreet();
        noHourBeforeThis();
        crowdRoundedDown();
        leavingRoundedDown();
        outOfTheStreet();
        largestStreet();
    }

    private static void lamps() {
        lampAtFirst();
        hiddenRoundedDown();
        lampFromNowOn();
        foundFromAnHourOn();
        foundLast();
    }

    private static void counts() {
        countRoundedDown();
        gapBetween();
        gapWithOneSide();
        gapWithoutAny();
        gapOfThisHour();
        lostOneTurnsUp();
        missedWithoutSigns();
    }

    private static void leases() {
        doorsOfSections();
        hoursOfALease();
        rentRoundedDown();
        corrections();
        correctionsOfItsHours();
        debts();
    }

    private static void buskers() {
        askedForThisHour();
        anyNumberOfSections();
        lotsInTheirOrder();
        noLotIsZero();
        remainders();
        fewestHours();
        coinsForTens();
    }

    private static void same(String sentence, long want, long got) {
        Check.same("Terms, " + sentence, want, got);
    }

    private static void holds(String sentence, boolean held) {
        Check.holds("Terms, " + sentence, held);
    }

    private static void sections() {
        for (int from = 0; from < 12; from++) {
            LampCounts x = new LampCounts();
            x.setPeople(from, 9, 0);
            x.pass(1);
            for (int section = 0; section < 12; section++) {
                same("sections one behind the other, from " + from, section < from ? 0 : 9, x.steps(section, 0));
            }
            same("all go out behind the last one, from " + from, 9, x.through(0));
        }
    }

    private static void hours() {
        LampCounts x = Streets.of(3);
        same("hours are numbered from 0 on", 0, x.hour());
        for (int hour = 0; hour < 200; hour++) {
            same("one hour ends", 36, x.pass(1));
            same("it is the next hour", hour + 1, x.hour());
            same("the hour that ended", 3, x.steps(11, hour));
        }
        Check.state("Terms, at most 200 end", () -> x.pass(1));
        same("200 have", 200, x.hour());
    }

    private static void emptyStreet() {
        LampCounts x = new LampCounts();
        x.ask(0, 0);
        same("nobody comes in at first", 0, x.pass(1));
        same("a busker plays to nobody", 0, x.player(0, 0));
        same("nobody stops", 0, x.crowd(0, 0));
        same("but an hour is played", 1, x.played(0));
        same("nobody goes out", 0, x.through(0));
        x.setPeople(0, 10, 0);
        x.pass(1);
        same("no share leaves at first", 10, x.steps(11, 1));
    }

    private static void noHourBeforeThis() {
        LampCounts x = Streets.of(100);
        x.ask(0, 0);
        x.pass(1);
        x.setPeople(0, 0, 0);
        same("nobody is there from the hour before", 0, x.pass(1));
        same("who went out does not come in again", 0, x.steps(0, 1));
        same("who stopped does not go on later", 0, x.steps(1, 1));
    }

    private static void crowdRoundedDown() {
        int[][] rows = {{10, 9, 0}, {10, 10, 1}, {10, 19, 1}, {10, 20, 2}, {50, 0, 0}, {50, 1, 0}, {50, 2, 1},
            {50, 3, 1}, {1, 99, 0}, {1, 100, 1}, {0, 1000, 0}, {50, 1000, 500}, {33, 3, 0}, {33, 4, 1}, {49, 101, 49}};
        for (int[] row : rows) {
            LampCounts x = Streets.of(row[1]);
            x.setSkill(3, row[0]);
            x.ask(3, 0);
            x.pass(1);
            String sentence = "the skill in hundredths, rounded down, " + row[0] + " of " + row[1];
            same(sentence, row[2], x.crowd(0, 0));
            same(sentence + ", the steps are both together", row[1] + row[2], x.steps(0, 0));
            same(sentence + ", those who stop go on to none", row[1] - row[2], x.steps(1, 0));
            same(sentence + ", nobody plays in the next section", 0, x.crowd(1, 0));
        }
    }

    private static void leavingRoundedDown() {
        int[][] rows = {{99, 1, 99}, {100, 1, 99}, {1, 99, 1}, {1, 100, 0}, {0, 100, 0}, {1000, 100, 0},
            {1000, 0, 1000}, {3, 50, 2}, {2, 50, 1}, {199, 50, 100}, {100, 99, 1}, {101, 99, 2}};
        for (int[] row : rows) {
            LampCounts x = new LampCounts();
            x.setPeople(4, row[0], row[1]);
            x.pass(1);
            String sentence = "the share that leaves, rounded down, " + row[1] + " of " + row[0];
            same(sentence, row[2], x.steps(5, 0));
            same(sentence + ", they have passed", row[0], x.steps(4, 0));
        }
        LampCounts x = new LampCounts();
        x.setPeople(0, 20, 19);
        x.setSkill(0, 50);
        x.ask(0, 0);
        x.pass(1);
        same("the share of those who do not stop", 10 - 1, x.steps(1, 0));
    }

    private static void outOfTheStreet() {
        int[][] rows = {{10, 0, 10}, {10, 50, 5}, {10, 100, 0}, {9, 50, 5}, {0, 50, 0}};
        for (int[] row : rows) {
            LampCounts x = new LampCounts();
            x.setPeople(11, row[0], row[1]);
            x.pass(1);
            same("behind the last one out of the street, " + row[0] + " less " + row[1], row[2], x.through(0));
        }
    }

    /** The most that can be: 12 times 1000 pass the last section, and half of them stop. */
    private static void largestStreet() {
        LampCounts x = new LampCounts();
        for (int section = 0; section < 12; section++) {
            x.setPeople(section, 1000, 0);
            x.setLamp(section, true, 60);
        }
        x.setSkill(0, 50);
        x.ask(0, 11);
        same("the most steps of an hour", 1000 * 78 + 6000, x.pass(1));
        same("the most who stop", 6000, x.crowd(11, 0));
        same("the most steps of a section", 18000, x.steps(11, 0));
        same("the others go out", 6000, x.through(0));
        same("the most coins of an hour", 600, x.coins(0));
        same("the reading with the largest blind spot", 18000 - 10800, x.reading(11, 0));
        x.find(11, 0, 60);
        same("the count of it", 18000, x.count(11, 0));
        same("the most steps of a call", 50L * 78000, x.pass(50));
    }

    private static void lampAtFirst() {
        LampCounts x = new LampCounts();
        x.setLamp(1, false, 0);
        x.pass(1);
        same("a lamp that works reads 0 of 0 steps", 0, x.reading(0, 0));
        same("a broken one reads nothing", -1, x.reading(1, 0));
        same("the blind spot at first", 0, x.setLamp(2, true, 1));
        same("of a broken one too", 0, x.setLamp(1, false, 1));
    }

    private static void hiddenRoundedDown() {
        int[][] rows = {{1, 60, 1}, {2, 60, 1}, {5, 60, 2}, {99, 1, 99}, {100, 1, 99}, {100, 0, 100}, {100, 60, 40},
            {3, 33, 3}, {4, 33, 3}, {0, 60, 0}, {1000, 59, 410}, {199, 50, 100}};
        for (int[] row : rows) {
            LampCounts x = new LampCounts();
            x.setPeople(11, row[0], 0);
            x.setLamp(11, true, row[1]);
            x.pass(1);
            same("hundredths that are rounded down, " + row[1] + " of " + row[0], row[2], x.reading(11, 0));
        }
    }

    private static void lampFromNowOn() {
        LampCounts x = Streets.of(100);
        x.pass(1);
        x.setLamp(0, false, 50);
        x.setLamp(1, true, 50);
        x.pass(1);
        x.setLamp(0, true, 50);
        x.pass(1);
        same("the hour before stays", 100, x.reading(0, 0));
        same("the hour before stays, of another blind spot", 100, x.reading(1, 0));
        same("from the hour of now on", -1, x.reading(0, 1));
        same("from the hour of now on, another blind spot", 50, x.reading(1, 1));
        same("until it is set again", 50, x.reading(0, 2));
        same("and not before", 50, x.reading(1, 2));
    }

    private static void foundFromAnHourOn() {
        LampCounts x = Streets.ended(5);
        x.find(3, 2, 60);
        String sentence = "found from an hour on: ";
        int[] due = {0, 0, 60, 60, 60, 60, 60};
        for (int hour = 0; hour < due.length; hour++) {
            same(sentence + "hour " + hour, due[hour], x.taken(3, hour));
        }
        same(sentence + "the last hour", 60, x.taken(3, 199));
        same(sentence + "the section ahead", 0, x.taken(2, 2) + x.taken(2, 199));
        same(sentence + "the section behind", 0, x.taken(4, 2) + x.taken(4, 199));
        same(sentence + "the count of the hour before", 100, x.count(3, 1));
        same(sentence + "the count of this hour", 250, x.count(3, 2));
        same(sentence + "of the hour that ended last", 250, x.count(3, 4));
        x.find(5, 5, 50);
        same(sentence + "of the hour of now, none has ended", 100, x.count(5, 4));
        x.pass(1);
        same(sentence + "of an hour that ended later", 250, x.count(3, 5));
        same(sentence + "of that hour of now", 200, x.count(5, 5));
        x.find(0, 0, 1);
        same(sentence + "from the first on", 1, x.taken(0, 0));
    }

    private static void foundLast() {
        String sentence = "what was found last for this hour, 0 if nothing was: ";
        LampCounts x = Streets.ended(5);
        same(sentence + "nothing", 0, x.taken(3, 0) + x.taken(3, 199));
        x.find(3, 4, 40);
        x.find(3, 2, 20);
        same(sentence + "the earlier hour was found later", 20, x.taken(3, 4));
        x.find(3, 4, 0);
        same(sentence + "a 0 is found as well", 0, x.taken(3, 4));
        same(sentence + "ahead of it", 20, x.taken(3, 3));
        same(sentence + "ahead of both", 0, x.taken(3, 1));
        x.find(3, 4, 40);
        x.find(3, 4, 41);
        same(sentence + "twice from one hour", 41, x.taken(3, 4));
        x.find(4, 0, 9);
        same(sentence + "another section later", 41, x.taken(3, 4));
    }

    private static void countRoundedDown() {
        int[][] rows = {{1, 60, 2}, {2, 60, 5}, {0, 60, 0}, {30000, 60, 75000}, {30000, 0, 30000}, {0, 0, 0},
            {1, 1, 1}, {98, 1, 98}, {99, 1, 100}, {3, 30, 4}, {7, 30, 10}, {1, 0, 1}, {30000, 59, 73170}};
        for (int[] row : rows) {
            LampCounts x = Streets.lost();
            x.find(6, 0, row[1]);
            x.turnUp(6, 0, row[0]);
            String sentence = "100 times the reading by 100 less the blind spot, " + row[0] + " of " + row[1];
            same(sentence, row[2], x.count(6, 0));
            same(sentence + ", anew", row[2], x.countAnew(6, 0));
            same(sentence + ", the largest gap ahead", row[2], x.count(0, 0));
            same(sentence + ", the largest gap behind, anew", row[2], x.countAnew(11, 0));
        }
    }

    private static LampCounts turnedUp(int... sectionsAndReadings) {
        LampCounts x = Streets.lost();
        for (int i = 0; i < sectionsAndReadings.length; i += 2) {
            x.turnUp(sectionsAndReadings[i], 0, sectionsAndReadings[i + 1]);
        }
        return x;
    }

    private static void counted(String sentence, LampCounts x, int section, int want) {
        same(sentence, want, x.count(section, 0));
        same(sentence + ", anew", want, x.countAnew(section, 0));
    }

    private static void gapBetween() {
        String sentence = "the sum of both counts by 2, rounded down: ";
        counted(sentence + "even", turnedUp(4, 10, 6, 14), 5, 12);
        counted(sentence + "odd", turnedUp(4, 10, 6, 13), 5, 11);
        counted(sentence + "1 and 0", turnedUp(4, 1, 6, 0), 5, 0);
        counted(sentence + "0 is a reading", turnedUp(4, 0, 6, 9, 3, 500), 5, 4);
        counted(sentence + "the ends of the street", turnedUp(0, 10, 11, 31), 1, 20);
        counted(sentence + "the ends of the street, the last gap", turnedUp(0, 10, 11, 31), 10, 20);
        counted(sentence + "the largest", turnedUp(0, 30000, 2, 30000), 1, 30000);
        LampCounts x = turnedUp(2, 10, 5, 20, 8, 100);
        counted(sentence + "the nearest ones", x, 3, 15);
        counted(sentence + "the nearest ones, of the next gap", x, 4, 15);
        counted(sentence + "the nearest ones, behind", x, 6, 60);
        counted(sentence + "the nearest ones, of the gap behind", x, 7, 60);
        x.find(5, 0, 50);
        counted(sentence + "both counts, not the readings", x, 3, 25);
        counted(sentence + "a blind spot of the gap itself does nothing", found(x, 4), 4, 25);
    }

    private static LampCounts found(LampCounts x, int section) {
        x.find(section, 0, 60);
        return x;
    }

    private static void gapWithOneSide() {
        String sentence = "with the one, if there is none on the other side: ";
        LampCounts x = turnedUp(1, 10, 10, 31);
        counted(sentence + "the first section", x, 0, 10);
        counted(sentence + "the last section", x, 11, 31);
        counted(sentence + "the last section alone", turnedUp(11, 7), 0, 7);
        counted(sentence + "the first section alone", turnedUp(0, 7), 11, 7);
        counted(sentence + "a 0 alone", turnedUp(1, 0, 2, 9), 0, 0);
        counted(sentence + "an odd one is not halved", turnedUp(5, 9), 6, 9);
        counted(sentence + "an odd one behind is not halved", turnedUp(5, 9), 4, 9);
    }

    private static void gapWithoutAny() {
        String sentence = "0 without any: ";
        LampCounts x = Streets.lost();
        for (int section = 0; section < 12; section++) {
            counted(sentence + "section " + section, x, section, 0);
        }
        same(sentence + "so all steps are missed", 1200, x.missed(0));
        x.find(0, 0, 60);
        counted(sentence + "a blind spot does nothing", x, 0, 0);
    }

    private static void gapOfThisHour() {
        LampCounts x = Streets.of(100);
        x.pass(1);
        x.setLamp(5, false, 0);
        x.setPeople(0, 200, 0);
        x.pass(1);
        x.setPeople(0, 400, 0);
        x.setLamp(5, true, 0);
        x.pass(1);
        same("readings for this hour alone", 200, x.count(5, 1));
        same("the hour before it", 100, x.count(5, 0));
        same("the hour behind it", 400, x.count(5, 2));
    }

    private static void lostOneTurnsUp() {
        String sentence = "it counts as others then: ";
        LampCounts x = turnedUp(2, 10, 8, 20);
        counted(sentence + "before", x, 5, 15);
        x.turnUp(5, 0, 101);
        counted(sentence + "itself", x, 5, 101);
        counted(sentence + "the gap ahead", x, 4, (10 + 101) / 2);
        counted(sentence + "the gap ahead, at its far end", x, 3, (10 + 101) / 2);
        counted(sentence + "the gap behind", x, 6, (101 + 20) / 2);
        counted(sentence + "the gap behind, at its far end", x, 7, (101 + 20) / 2);
        counted(sentence + "beyond the next reading ahead", x, 1, 10);
        counted(sentence + "beyond the next reading behind", x, 9, 20);
        x.find(5, 0, 50);
        counted(sentence + "a blind spot is found for it", x, 5, 202);
        counted(sentence + "and the gap leans on that", x, 4, (10 + 202) / 2);
    }

    private static void missedWithoutSigns() {
        LampCounts x = turnedUp(0, 90, 1, 110, 2, 100);
        same("without their signs", 10 + 10 + 0 + 0, x.missed(0));
        x.turnUp(11, 0, 0);
        x.turnUp(3, 0, 101);
        same("each by itself", 10 + 10 + 1 + 7 * 50 + 100, x.missed(0));
    }

    private static void doorsOfSections() {
        for (int door = 0; door < 36; door++) {
            LampCounts x = new LampCounts();
            for (int section = 0; section < 12; section++) {
                x.setPeople(section, 50 * (1 + section), 100);
            }
            x.lease(door, 0, 0, 2, 1);
            x.pass(1);
            same("3 times its section and itself, " + door, 1 + door / 3, x.billed(0));
        }
    }

    private static void hoursOfALease() {
        for (int hours : new int[] {1, 2, 99, 100}) {
            LampCounts x = Streets.ended(3);
            x.lease(0, 0, 1, 0, hours);
            String sentence = "hours from that of now on, " + hours;
            holds(sentence + ", ahead of them", !x.isOf(0, 2));
            holds(sentence + ", the first", x.isOf(0, 3));
            holds(sentence + ", the last", x.isOf(0, 2 + hours));
            holds(sentence + ", behind them", !x.isOf(0, 3 + hours));
            same(sentence + ", none has ended", 0, x.billed(0));
            Streets.passed(x, hours - 1);
            same(sentence + ", all but one have", hours - 1, x.billed(0));
            x.pass(1);
            same(sentence + ", all have", hours, x.billed(0));
            x.pass(1);
            same(sentence + ", and one behind them", hours, x.billed(0));
            same(sentence + ", anew", hours, x.billedAnew(0));
        }
    }

    private static void rentRoundedDown() {
        int[][] rows = {{0, 0, 1000, 0}, {50, 0, 1000, 50}, {0, 1, 99, 0}, {0, 1, 100, 1}, {7, 1, 199, 8},
            {0, 50, 1, 0}, {0, 50, 2, 1}, {50, 50, 1000, 550}, {3, 33, 3, 3}, {3, 33, 4, 4}, {9, 50, 0, 9}};
        for (int[] row : rows) {
            LampCounts x = Streets.of(row[2]);
            x.lease(0, 4, row[0], row[1], 2);
            x.pass(1);
            String sentence = "base, and the rate times the count by 100, rounded down, " + row[0] + " " + row[1];
            same(sentence + " " + row[2], row[3], x.billed(0));
            x.pass(1);
            same(sentence + " " + row[2] + ", each hour by itself", 2 * row[3], x.billed(0));
            same(sentence + " " + row[2] + ", anew", 2 * row[3], x.billedAnew(0));
            same(sentence + " " + row[2] + ", no correction", 0, x.corrected(0));
        }
        LampCounts x = Streets.lost();
        x.lease(0, 0, 50, 50, 1);
        x.pass(1);
        x.find(0, 1, 60);
        same("the largest rent", 50 + 37500 - 50, x.turnUp(0, 1, 30000));
        same("the largest rent is billed", 50 + 37500, x.billed(0));
    }

    private static void corrections() {
        String sentence = "when counts change, the difference is billed at once: ";
        LampCounts x = Streets.of(99);
        x.setLamp(1, false, 0);
        x.lease(0, 0, 0, 1, 1);
        x.lease(3, 1, 0, 1, 1);
        x.lease(6, 1, 0, 1, 1);
        x.pass(1);
        same(sentence + "no change", 0, x.corrected(0));
        same(sentence + "a count of 100", 1, x.find(0, 0, 1));
        same(sentence + "its own correction", 1, x.corrected(0));
        same(sentence + "the gap's count, rounded down to 99", 0, x.corrected(1));
        same(sentence + "a count of 101, and a gap of 100", 2, x.find(2, 0, 2));
        same(sentence + "the gap's correction", 1, x.corrected(1));
        same(sentence + "the one behind the gap", 1, x.corrected(2));
        same(sentence + "a change that the rounding hides", 0, x.find(0, 0, 2));
        same(sentence + "back again, the gap stays above 99", -1, x.find(0, 0, 0));
        same(sentence + "the sum of all corrections", 0, x.corrected(0));
        same(sentence + "what is billed then", 0, x.billed(0));
        same(sentence + "the gap's sum", 1, x.corrected(1));
        same(sentence + "all of it is owed", 2, x.owes(1));
    }

    private static void correctionsOfItsHours() {
        String sentence = "the sum of its rents: ";
        LampCounts x = Streets.ended(1);
        x.lease(0, 0, 0, 10, 2);
        x.pass(3);
        same(sentence + "from ahead of its first hour on", 2 * 10, x.find(0, 0, 50));
        same(sentence + "from its last hour on", -10, x.find(0, 2, 0));
        same(sentence + "from behind its last hour on", 0, x.find(0, 3, 60));
        same(sentence + "all corrections", 10, x.corrected(0));
        x.lease(0, 0, 0, 10, 5);
        x.pass(1);
        x.quit(1);
        x.pass(1);
        same(sentence + "the hour of a quit lease", 25, x.billed(1));
        same(sentence + "it has none behind that", 0, x.find(0, 5, 20));
        same(sentence + "its own is corrected", -15, x.find(0, 4, 0));
        same(sentence + "of the newer one alone", -15, x.corrected(1));
        same(sentence + "the older one stays", 10, x.corrected(0));
        LampCounts y = Streets.ended(0);
        Streets.breakAll(y);
        y.pass(1);
        y.lease(5, 0, 0, 50, 1);
        y.pass(2);
        same(sentence + "a reading ahead of its hours", 0, y.turnUp(1, 0, 100));
        same(sentence + "a reading behind its hours", 0, y.turnUp(1, 2, 100));
        same(sentence + "a reading of its hour", 50, y.turnUp(1, 1, 100));
    }

    private static void debts() {
        String sentence = "what is billed less what was paid, below 0 too: ";
        LampCounts x = Streets.of(100);
        same(sentence + "nothing yet", 0, x.owes(5));
        same(sentence + "1 below", -1, x.pay(5, 1));
        x.lease(0, 5, 1, 0, 3);
        x.pass(1);
        same(sentence + "0", 0, x.owes(5));
        x.pass(1);
        same(sentence + "1 above", 1, x.owes(5));
        x.lease(1, 5, 7, 0, 1);
        x.lease(2, 4, 9, 0, 1);
        x.pass(1);
        same(sentence + "all leases of the tenant", 3 + 7 - 1, x.owes(5));
        same(sentence + "the others have their own", 9, x.owes(4));
    }

    private static void askedForThisHour() {
        String sentence = "for the hour of now; all asking is over when the hour ends: ";
        LampCounts x = Streets.of(100);
        x.ask(2, 0);
        x.pass(2);
        same(sentence + "this hour", 2, x.player(0, 0));
        same(sentence + "the hour behind it", -1, x.player(0, 1));
        x.ask(3, 0);
        x.ask(3, 1);
        x.ask(4, 0);
        x.pass(1);
        same(sentence + "who got another place asks no more", 1, x.ask(3, 1));
        x.pass(1);
        x.pass(1);
        same(sentence + "who got none asks no more", -1, x.player(0, 4));
    }

    private static void anyNumberOfSections() {
        String sentence = "any number of them: ";
        LampCounts x = Streets.of(100);
        for (int i = 0; i < 72; i++) {
            same(sentence + "busker " + i / 12, 1 + i % 12, x.ask(i / 12, i % 12));
        }
        x.pass(1);
        for (int section = 0; section < 12; section++) {
            same(sentence + "six play, each once", section < 6 ? section : -1, x.player(section, 0));
        }
        for (int busker = 0; busker < 6; busker++) {
            same(sentence + "each has an hour", 1, x.played(busker));
        }
        x.pass(1);
        same(sentence + "none asks, none plays", 6, hoursPlayed(x));
    }

    private static int hoursPlayed(LampCounts x) {
        int sum = 0;
        for (int busker = 0; busker < 6; busker++) {
            sum += x.played(busker);
        }
        return sum;
    }

    private static void lotsInTheirOrder() {
        String sentence = "used up in the order in which they were told: ";
        LampCounts x = Streets.of(100);
        int[] lots = {5, 0, 1, 2, 1};
        for (int lot : lots) {
            x.lot(lot);
        }
        Told.visible(x);
        for (int i = 0; i < 72; i++) {
            x.ask(i % 6, i / 6);
        }
        x.pass(1);
        // of 0 1 2 3 4 5 the one at 5; of 0 1 2 3 4 at 0; of 1 2 3 4 at 1; of 1 3 4 at 2; of 1 3 at 1; 1 alone
        int[] due = {5, 0, 2, 4, 3, 1, -1};
        for (int section = 0; section < due.length; section++) {
            same(sentence + "section " + section, due[section], x.player(section, 0));
        }
        same(sentence + "one alone needs none", 0, x.lots());
    }

    private static void noLotIsZero() {
        String sentence = "if none is left, it is 0: ";
        LampCounts x = Streets.of(100);
        x.lot(2);
        for (int section = 0; section < 2; section++) {
            x.ask(1, section);
            x.ask(3, section);
            x.ask(5, section);
        }
        x.pass(1);
        same(sentence + "the last one", 5, x.player(0, 0));
        same(sentence + "none", 1, x.player(1, 0));
        same(sentence + "there are none", 0, x.lots());
        same(sentence + "one told later is the first", 1, x.lot(1));
        x.ask(3, 0);
        x.ask(4, 0);
        x.ask(2, 0);
        x.pass(1);
        same(sentence + "and is used up", 3, x.player(0, 1));
    }

    private static void remainders() {
        int[][] rows = {{0, 1}, {1, 3}, {2, 4}, {3, 1}, {4, 3}, {5, 4}, {998, 4}, {999, 1}, {1000, 3}};
        for (int[] row : rows) {
            LampCounts x = Streets.of(100);
            x.lot(row[0]);
            x.ask(4, 7);
            x.ask(1, 7);
            x.ask(3, 7);
            x.pass(1);
            same("its remainder by how many there are, by rising numbers, " + row[0], row[1], x.player(7, 0));
            same("a lot is used up, " + row[0], 0, x.lots());
        }
        LampCounts x = Streets.of(100);
        x.lot(1);
        x.ask(4, 7);
        x.pass(2);
        same("one alone uses up none", 1, x.lots());
    }

    private static void fewestHours() {
        String sentence = "the fewest hours played, as they were when the hour began: ";
        LampCounts x = Streets.of(100);
        x.ask(0, 0);
        x.pass(1);
        x.ask(0, 0);
        x.ask(1, 0);
        x.pass(1);
        same(sentence + "one less", 1, x.player(0, 1));
        x.lot(1);
        x.ask(0, 0);
        x.ask(1, 0);
        x.pass(1);
        same(sentence + "as many, by a lot", 1, x.player(0, 2));
        x.ask(0, 3);
        x.ask(1, 3);
        x.ask(5, 0);
        x.ask(5, 3);
        x.pass(1);
        same(sentence + "the only one, of none", 5, x.player(0, 3));
        same(sentence + "who plays already does not count", 0, x.player(3, 3));
        x.ask(1, 11);
        x.ask(5, 10);
        x.pass(1);
        same(sentence + "many hours, but alone", 1, x.player(11, 4));
        same(sentence + "hours of each", 2 * 100 + 3 * 10 + 2, x.played(0) * 100 + x.played(1) * 10 + x.played(5));
    }

    private static void coinsForTens() {
        int[][] rows = {{90, 0}, {99, 0}, {100, 1}, {109, 1}, {190, 1}, {199, 1}, {200, 2}, {1000, 10}, {0, 0}};
        for (int[] row : rows) {
            LampCounts x = Streets.of(row[0]);
            x.ask(5, 0);
            x.pass(1);
            same("a coin for each 10 of the crowd, of " + row[0], row[1], x.coins(5));
            x.ask(5, 0);
            x.pass(1);
            same("each hour by itself, of " + row[0], 2 * row[1], x.coins(5));
        }
    }
}
