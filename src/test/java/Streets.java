/** Streets to begin a test with. */
final class Streets {
    private Streets() {
    }

    /** So many come in at section 0, and nobody leaves. */
    static LampCounts of(int people) {
        LampCounts x = new LampCounts();
        x.setPeople(0, people, 0);
        return x;
    }

    static LampCounts passed(LampCounts x, int hours) {
        for (int left = hours; left > 0; left -= 50) {
            x.pass(Math.min(left, 50));
        }
        return x;
    }

    static LampCounts ended(int hours) {
        return passed(of(100), hours);
    }

    static void breakAll(LampCounts x) {
        for (int section = 0; section < 12; section++) {
            x.setLamp(section, false, 0);
        }
    }

    /** One hour has ended, and no lamp read in it. */
    static LampCounts lost() {
        LampCounts x = of(100);
        breakAll(x);
        x.pass(1);
        return x;
    }

    /**
     * Something of everything, so that a call that should change nothing has much that it could change:
     * three hours have ended, sections 0 and 11 have no reading, leases 0 and 2 go on and lease 1 has ended,
     * the doors 0 and 35 are free, and busker 3 asks for nothing.
     */
    static LampCounts busy() {
        LampCounts x = new LampCounts();
        for (int section = 0; section < 12; section++) {
            x.setPeople(section, 40 + 17 * section, 3 * section);
        }
        x.setLamp(0, false, 10);
        x.setLamp(3, true, 60);
        x.setLamp(5, false, 20);
        x.setLamp(11, false, 30);
        x.setSkill(1, 50);
        x.setSkill(4, 0);
        x.lease(1, 0, 10, 20, 5);
        x.lease(34, 5, 1, 1, 1);
        x.lease(16, 2, 50, 50, 100);
        for (int i = 0; i < 12; i++) {
            x.lot(7 * i + i % 5);
        }
        x.ask(0, 0);
        x.ask(1, 0);
        x.ask(2, 5);
        x.pass(2);
        x.find(3, 1, 50);
        x.find(4, 0, 7);
        x.turnUp(5, 1, 333);
        x.pay(2, 77);
        x.pay(0, 1);
        x.pass(1);
        x.ask(0, 2);
        x.ask(1, 2);
        x.ask(1, 3);
        x.ask(5, 11);
        return x;
    }
}
