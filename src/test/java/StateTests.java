/** Each sentence that refuses a call by the state: the last state that allows it, and the first that does not. */
final class StateTests {
    private StateTests() {
    }

    static void run() {
        pass();
        find();
        turnUp();
        leaseLimit();
        heldDoor();
        doorAfterQuitting();
        quit();
        quitAtTheEnd();
        pay();
        ask();
        lot();
        calls();
    }

    private static void pass() {
        String sentence = "promise 3, if more than 200 would have ended: ";
        Edge.answers(sentence + "50 behind 150", () -> Streets.ended(150), 60000, x -> x.pass(50));
        Edge.refuses(sentence + "50 behind 151", () -> Streets.ended(151), Outcome.STATE, x -> x.pass(50));
        Edge.answers(sentence + "49 behind 151", () -> Streets.ended(151), 58800, x -> x.pass(49));
        Edge.answers(sentence + "1 behind 199", () -> Streets.ended(199), 1200, x -> x.pass(1));
        Edge.refuses(sentence + "2 behind 199", () -> Streets.ended(199), Outcome.STATE, x -> x.pass(2));
        Edge.refuses(sentence + "1 behind 200", () -> Streets.ended(200), Outcome.STATE, x -> x.pass(1));
        LampCounts x = Streets.ended(199);
        Outcome.of(() -> x.pass(2));
        Check.same(sentence + "the refused hours have not ended", 199, x.hour());
        x.pass(1);
        Check.same(sentence + "200 have ended", 200, x.hour());
    }

    private static void find() {
        String sentence = "promise 5, if 60 were found: ";
        Edge.allows(sentence + "the 60th", () -> OrderTests.found(59), x -> x.find(0, 0, 5));
        Edge.refuses(sentence + "the 61st", () -> OrderTests.found(60), Outcome.STATE, x -> x.find(0, 0, 5));
        Edge.refuses(sentence + "for the hour of now", () -> OrderTests.found(60), Outcome.STATE, x -> x.find(0, 2, 5));
        Edge.refuses(sentence + "what is taken already", () -> OrderTests.found(60), Outcome.STATE,
                x -> x.find(11, 1, x.taken(11, 1)));
        Edge.refuses(sentence + "60 of one section, then of another", StateTests::sixtyOfOne, Outcome.STATE,
                x -> x.find(7, 0, 5));
        LampCounts x = OrderTests.found(59);
        Outcome.of(() -> x.find(0, 0, 61));
        Outcome.of(() -> x.find(0, 3, 5));
        Outcome.of(() -> x.find(12, 0, 5));
        Check.holds(sentence + "refused ones are none", Outcome.isAnswer(Outcome.of(() -> x.find(0, 0, 5))));
        Check.same(sentence + "the 60th counts", 5, x.taken(0, 0));
        Check.state(sentence + "then 60 were", () -> x.find(0, 0, 6));
        x.pass(1);
        Check.state(sentence + "an hour later too", () -> x.find(0, 3, 6));
    }

    private static LampCounts sixtyOfOne() {
        LampCounts x = Streets.ended(1);
        for (int i = 0; i < 60; i++) {
            x.find(3, 0, 20);
        }
        return x;
    }

    private static void turnUp() {
        String sentence = "promise 6, if there is a reading: ";
        Edge.refuses(sentence + "the lamp worked", Streets::busy, Outcome.STATE, x -> x.turnUp(1, 0, 5));
        Edge.allows(sentence + "the lamp was broken", Streets::busy, x -> x.turnUp(0, 0, 5));
        Edge.refuses(sentence + "it turned up before", Streets::busy, Outcome.STATE, x -> x.turnUp(5, 1, 333));
        Edge.allows(sentence + "of the hour ahead none did", Streets::busy, x -> x.turnUp(5, 0, 333));
        Edge.allows(sentence + "of the hour behind none did", Streets::busy, x -> x.turnUp(5, 2, 333));
        Edge.refuses(sentence + "it is 0", () -> Streets.passed(new LampCounts(), 1), Outcome.STATE,
                x -> x.turnUp(4, 0, 0));
        LampCounts x = Streets.lost();
        x.setLamp(4, true, 0);
        Check.same(sentence + "a lamp mended later", 0, x.turnUp(4, 0, 0));
        Check.state(sentence + "a 0 that turned up", () -> x.turnUp(4, 0, 9));
        Check.same(sentence + "the 0 stays", 0, x.reading(4, 0));
        x.pass(1);
        x.setLamp(4, false, 0);
        Check.state(sentence + "a lamp broken later", () -> x.turnUp(4, 1, 9));
    }

    private static void leaseLimit() {
        String sentence = "promise 7, if 30 were made: ";
        Edge.answers(sentence + "the 30th", () -> OrderTests.leased(29), 29, x -> x.lease(35, 0, 1, 1, 1));
        Edge.refuses(sentence + "the 31st", () -> OrderTests.leased(30), Outcome.STATE, x -> x.lease(35, 0, 1, 1, 1));
        Edge.refuses(sentence + "though all were ended", StateTests::allQuit, Outcome.STATE,
                x -> x.lease(35, 0, 1, 1, 1));
        Edge.refuses(sentence + "though their hours have ended", () -> Streets.passed(OrderTests.leased(30), 60),
                Outcome.STATE, x -> x.lease(0, 0, 1, 1, 1));
        LampCounts x = OrderTests.leased(29);
        Outcome.of(() -> x.lease(0, 0, 1, 1, 1));
        Outcome.of(() -> x.lease(35, 0, 51, 1, 1));
        Check.same(sentence + "refused ones are none", 29, x.lease(35, 0, 1, 1, 1));
        Check.same(sentence + "30 were", 30, x.leases());
    }

    private static LampCounts allQuit() {
        LampCounts x = OrderTests.leased(30);
        for (int lease = 0; lease < 30; lease++) {
            x.quit(lease);
        }
        return x;
    }

    private static LampCounts held(int passed) {
        LampCounts x = Streets.passed(Streets.of(100), 3);
        x.lease(4, 0, 1, 1, 10);
        return Streets.passed(x, passed);
    }

    private static void heldDoor() {
        String sentence = "promise 7, if another one has the door in one of these hours: ";
        Edge.refuses(sentence + "in all of them", () -> held(0), Outcome.STATE, x -> x.lease(4, 1, 1, 1, 10));
        Edge.refuses(sentence + "for the same tenant too", () -> held(0), Outcome.STATE, x -> x.lease(4, 0, 1, 1, 1));
        Edge.refuses(sentence + "its last hour is that of now", () -> held(9), Outcome.STATE,
                x -> x.lease(4, 1, 1, 1, 1));
        Edge.refuses(sentence + "its last hour, and others behind it", () -> held(9), Outcome.STATE,
                x -> x.lease(4, 1, 1, 1, 100));
        Edge.answers(sentence + "its last hour has ended", () -> held(10), 1, x -> x.lease(4, 1, 1, 1, 100));
        Edge.answers(sentence + "the door ahead", () -> held(0), 1, x -> x.lease(3, 1, 1, 1, 10));
        Edge.answers(sentence + "the door behind", () -> held(0), 1, x -> x.lease(5, 1, 1, 1, 10));
        Edge.answers(sentence + "the same place of the next section", () -> held(0), 1,
                x -> x.lease(7, 1, 1, 1, 10));
    }

    private static void doorAfterQuitting() {
        String sentence = "promise 8, the hour of now is not one of its hours, and none behind it: ";
        LampCounts x = held(4);
        x.quit(0);
        Check.holds(sentence + "the last one that is", x.isOf(0, 6));
        Check.holds(sentence + "the hour of now", !x.isOf(0, 7));
        Check.holds(sentence + "behind it", !x.isOf(0, 8) && !x.isOf(0, 12));
        Check.same(sentence + "the door is free at once", 1, x.lease(4, 1, 0, 0, 2));
        Check.state(sentence + "for one alone", () -> x.lease(4, 2, 0, 0, 2));
        Check.same(sentence + "the newer one is ended too", 0, x.quit(1));
        Check.same(sentence + "and the door free again", 2, x.lease(4, 2, 0, 0, 1));
        x.pass(1);
        Check.same(sentence + "four hours are billed", 4 * 2, x.billed(0));
        Check.holds(sentence + "a lease without an hour", !x.isOf(1, 6) && !x.isOf(1, 7) && !x.isOf(1, 8));
    }

    private static void quit() {
        String ended = "promise 8, if its last hour has ended: ";
        Edge.answers(ended + "it is that of now", () -> held(9), 9, x -> x.quit(0));
        Edge.refuses(ended + "it just has", () -> held(10), Outcome.STATE, x -> x.quit(0));
        Edge.refuses(ended + "long ago", () -> held(30), Outcome.STATE, x -> x.quit(0));
        Edge.answers(ended + "no hour has", () -> held(0), 0, x -> x.quit(0));
        Edge.answers(ended + "one has", () -> held(1), 1, x -> x.quit(0));
        String twice = "promise 8, if it was ended: ";
        Edge.refuses(twice + "in this hour", () -> quitAt(5, 0), Outcome.STATE, x -> x.quit(0));
        Edge.refuses(twice + "an hour ago", () -> quitAt(5, 1), Outcome.STATE, x -> x.quit(0));
        Edge.refuses(twice + "before its first hour ended", () -> quitAt(0, 0), Outcome.STATE, x -> x.quit(0));
        Edge.refuses(twice + "so, and an hour ago", () -> quitAt(0, 1), Outcome.STATE, x -> x.quit(0));
        LampCounts x = quitAt(5, 0);
        x.lease(4, 0, 1, 1, 10);
        Check.same(twice + "another one of the door was not", 0, x.quit(1));
    }

    private static LampCounts quitAt(int passed, int later) {
        LampCounts x = held(passed);
        x.quit(0);
        return Streets.passed(x, later);
    }

    /** At most 200 hours end, so a lease may have hours that never do. */
    private static void quitAtTheEnd() {
        String sentence = "promise 8, at the end of all hours: ";
        LampCounts x = Streets.ended(190);
        x.lease(0, 0, 1, 0, 10);
        x.lease(1, 0, 1, 0, 11);
        x.lease(2, 0, 1, 0, 100);
        x.pass(10);
        Check.state(sentence + "its last hour was the last of all", () -> x.quit(0));
        Check.same(sentence + "one hour is left", 10, x.quit(1));
        Check.same(sentence + "many are left", 10, x.quit(2));
        Check.holds(sentence + "then none is", x.isOf(2, 199) && !x.isOf(2, 200));
        Check.same(sentence + "a new one has none", 3, x.lease(2, 0, 1, 0, 1));
        Check.same(sentence + "and none of its hours has ended", 0, x.quit(3));
        Check.same(sentence + "what is billed stays", 10, x.billed(2));
    }

    private static void pay() {
        String sentence = "promise 9, if more than 1000000 would have been paid: ";
        Edge.answers(sentence + "just 1000000", () -> OrderTests.paidAll(7), -1000000, x -> x.pay(1, 7));
        Edge.refuses(sentence + "one more", () -> OrderTests.paidAll(7), Outcome.STATE, x -> x.pay(1, 8));
        Edge.refuses(sentence + "1000000 were", () -> OrderTests.paidAll(0), Outcome.STATE, x -> x.pay(1, 1));
        Edge.refuses(sentence + "the most at once", () -> OrderTests.paidAll(99999), Outcome.STATE,
                x -> x.pay(1, 100000));
        Edge.answers(sentence + "another tenant", () -> OrderTests.paidAll(0), -100000, x -> x.pay(4, 100000));
        LampCounts x = OrderTests.paidAll(7);
        Outcome.of(() -> x.pay(1, 8));
        Check.same(sentence + "what was refused is not paid", -1000000, x.pay(1, 7));
        LampCounts rich = Streets.of(1000);
        rich.lease(0, 1, 50, 50, 100);
        rich.pass(50);
        for (int i = 0; i < 10; i++) {
            rich.pay(1, 100000);
        }
        Check.state(sentence + "what is billed lets no more be paid", () -> rich.pay(1, 1));
        Check.same(sentence + "and is owed all the same", 50 * 550 - 1000000, rich.owes(1));
    }

    private static void ask() {
        String sentence = "promise 11, if the busker asks for it: ";
        Edge.refuses(sentence + "once more", Streets::busy, Outcome.STATE, x -> x.ask(1, 2));
        Edge.answers(sentence + "the section ahead", Streets::busy, 3, x -> x.ask(1, 1));
        Edge.answers(sentence + "the section behind", Streets::busy, 3, x -> x.ask(1, 4));
        Edge.answers(sentence + "another busker", Streets::busy, 1, x -> x.ask(2, 2));
        Edge.refuses(sentence + "busker 5, section 11", Streets::busy, Outcome.STATE, x -> x.ask(5, 11));
        Edge.answers(sentence + "busker 4, section 11", Streets::busy, 1, x -> x.ask(4, 11));
        LampCounts x = Streets.busy();
        Outcome.of(() -> x.ask(1, 2));
        Check.same(sentence + "a refused one is none", 3, x.ask(1, 9));
        x.pass(1);
        Check.same(sentence + "no more when the hour has ended", 1, x.ask(1, 2));
        Check.state(sentence + "but then again", () -> x.ask(1, 2));
        LampCounts end = Streets.ended(200);
        Check.same(sentence + "behind the last hour", 1, end.ask(0, 0));
        Check.state(sentence + "behind the last hour, once more", () -> end.ask(0, 0));
    }

    private static void lot() {
        String sentence = "promise 12, if 50 are left: ";
        Edge.answers(sentence + "49 are", () -> OrderTests.told(49), 50, x -> x.lot(1));
        Edge.refuses(sentence + "50 are", () -> OrderTests.told(50), Outcome.STATE, x -> x.lot(1));
        Edge.answers(sentence + "none is", LampCounts::new, 1, x -> x.lot(1));
        LampCounts x = OrderTests.told(50);
        x.ask(0, 0);
        x.pass(1);
        Check.state(sentence + "one busker used up none", () -> x.lot(1));
        x.ask(4, 0);
        x.ask(5, 0);
        x.pass(1);
        Check.same(sentence + "one was used up", 50, x.lot(999));
        Check.state(sentence + "50 are again", () -> x.lot(1));
    }

    /** An object is used for at most 512 calls: the last of them is answered like the first. */
    private static void calls() {
        String sentence = "at most 512 calls: ";
        LampCounts x = new LampCounts();
        for (int call = 1; call <= 512; call++) {
            Check.same(sentence + call, (call - 1) % 2 * 1000, x.setPeople(0, call % 2 * 1000, 0));
        }
        LampCounts y = Streets.of(1000);
        for (int i = 0; i < 60; i++) {
            y.find(0, 0, i % 2 * 60);
        }
        y.lease(0, 0, 50, 50, 100);
        y.pass(50);
        y.pass(50);
        for (int call = 64; call <= 512; call++) {
            Check.same(sentence + "the dearest answer, " + call, 100 * (50 + 1250), y.billedAnew(0));
        }
    }
}
