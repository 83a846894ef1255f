import java.util.ArrayList;
import java.util.List;
import java.util.Random;

/** Long runs of calls by seed, right and wrong ones, against the second telling in Model. */
final class ModelTests {
    private static final int RUNS = 80;
    private static final int CALLS = 300;

    private final Random random;
    private final LampCounts real = new LampCounts();
    private final Model model = new Model();
    private final int seed;
    private final int kind;

    private ModelTests(int seed) {
        this.seed = seed;
        this.random = new Random(seed);
        this.kind = seed % 4;
    }

    static void run() {
        for (int seed = 0; seed < RUNS; seed++) {
            Check.holds("run of seed " + seed, new ModelTests(seed).agrees());
        }
    }

    private boolean agrees() {
        for (int i = 0; i < CALLS; i++) {
            List<Long> before = i % 10 == 0 ? Told.visible(real) : null;
            long[] answers = change();
            if (answers[0] != answers[1]) {
                System.out.println("seed " + seed + " call " + i + " due " + answers[1] + " answered " + answers[0]);
                return false;
            }
            boolean threw = !Outcome.isAnswer(answers[0]);
            if (before != null && threw && !before.equals(Told.visible(real))) {
                System.out.println("seed " + seed + " call " + i + " threw and changed something");
                return false;
            }
            if (i % 25 == 0 && !sameEverywhere()) {
                System.out.println("seed " + seed + " after call " + i);
                return false;
            }
        }
        return sameEverywhere();
    }

    /** Mostly within the range, now and then on its edge or just outside. */
    private int near(int least, int most) {
        int dice = random.nextInt(40);
        if (dice == 0) {
            return least - 1;
        }
        if (dice == 1) {
            return most + 1;
        }
        if (dice < 4) {
            return least;
        }
        return dice < 6 || most < least ? most : least + random.nextInt(most - least + 1);
    }

    private int section() {
        return near(0, kind == 1 ? 3 : 11);
    }

    private static long[] both(Check.Call real, Check.Call model) {
        return new long[] {Outcome.of(real), Outcome.of(model)};
    }

    private long[] change() {
        int dice = random.nextInt(100);
        if (dice < 10) {
            return changePeople();
        }
        if (dice < 22) {
            int hours = kind == 0 ? near(1, 50) : 1 + random.nextInt(3);
            return both(() -> real.pass(hours), () -> model.pass(hours));
        }
        if (dice < 54) {
            return changeLamps(dice);
        }
        return dice < 76 ? changeLeases(dice) : changeBuskers(dice);
    }

    private long[] changePeople() {
        int section = section();
        int people = near(0, 1000);
        int share = near(0, 100);
        return both(() -> real.setPeople(section, people, share), () -> model.setPeople(section, people, share));
    }

    private long[] changeLamps(int dice) {
        int section = section();
        int blind = near(0, 60);
        if (dice < 36) {
            boolean works = random.nextBoolean();
            return both(() -> real.setLamp(section, works, blind), () -> model.setLamp(section, works, blind));
        }
        if (dice < 42) {
            int hour = near(0, model.hour());
            return both(() -> real.find(section, hour, blind), () -> model.find(section, hour, blind));
        }
        int hour = near(0, model.hour() - 1);
        int reading = near(0, 30000);
        return both(() -> real.turnUp(section, hour, reading), () -> model.turnUp(section, hour, reading));
    }

    private long[] changeLeases(int dice) {
        if (dice < 66) {
            int door = near(0, kind == 1 ? 11 : 35);
            int tenant = near(0, 5);
            int base = near(0, 50);
            int rate = near(0, 50);
            int hours = near(1, 100);
            return both(() -> real.lease(door, tenant, base, rate, hours),
                    () -> model.lease(door, tenant, base, rate, hours));
        }
        if (dice < 71) {
            int lease = near(0, model.leases() - 1);
            return both(() -> real.quit(lease), () -> model.quit(lease));
        }
        int tenant = near(0, 5);
        int coins = near(1, 100000);
        return both(() -> real.pay(tenant, coins), () -> model.pay(tenant, coins));
    }

    private long[] changeBuskers(int dice) {
        if (dice < 79) {
            int busker = near(0, 5);
            int skill = near(0, 50);
            return both(() -> real.setSkill(busker, skill), () -> model.setSkill(busker, skill));
        }
        if (dice < 95) {
            int busker = near(0, 5);
            int section = near(0, kind == 2 ? 2 : 11);
            return both(() -> real.ask(busker, section), () -> model.ask(busker, section));
        }
        int number = near(0, 1000);
        return both(() -> real.lot(number), () -> model.lot(number));
    }

    private boolean same(String what, Check.Call real, Check.Call model) {
        long[] answers = both(real, model);
        if (answers[0] != answers[1]) {
            System.out.println(what + " due " + answers[1] + " answered " + answers[0]);
        }
        return answers[0] == answers[1];
    }

    private boolean sameEverywhere() {
        boolean same = real.hour() == model.hour() && real.lots() == model.lots() && real.leases() == model.leases();
        for (int hour = -1; hour <= model.hour(); hour++) {
            int h = hour;
            same &= same("through " + h, () -> real.through(h), () -> model.through(h));
            same &= same("missed " + h, () -> real.missed(h), () -> model.missed(h));
            for (int section = -1; section <= 12; section++) {
                same &= sameSection(section, hour);
            }
        }
        for (int lease = -1; lease <= model.leases(); lease++) {
            same &= sameLease(lease);
        }
        for (int one = -1; one <= 6; one++) {
            int i = one;
            same &= same("owes " + i, () -> real.owes(i), () -> model.owes(i));
            same &= same("played " + i, () -> real.played(i), () -> model.played(i));
            same &= same("coins " + i, () -> real.coins(i), () -> model.coins(i));
        }
        return same;
    }

    private boolean sameSection(int s, int h) {
        boolean same = same("steps " + s + " " + h, () -> real.steps(s, h), () -> model.steps(s, h));
        same &= same("crowd " + s + " " + h, () -> real.crowd(s, h), () -> model.crowd(s, h));
        same &= same("reading " + s + " " + h, () -> real.reading(s, h), () -> model.reading(s, h));
        same &= same("count " + s + " " + h, () -> real.count(s, h), () -> model.count(s, h));
        same &= same("countAnew " + s + " " + h, () -> real.countAnew(s, h), () -> model.count(s, h));
        same &= same("player " + s + " " + h, () -> real.player(s, h), () -> model.player(s, h));
        same &= same("taken " + s + " " + h, () -> real.taken(s, h), () -> model.taken(s, h));
        int later = 199 - h;
        same &= same("taken " + s + " " + later, () -> real.taken(s, later), () -> model.taken(s, later));
        return same;
    }

    private boolean sameLease(int lease) {
        boolean same = same("billed " + lease, () -> real.billed(lease), () -> model.billed(lease));
        same &= same("billedAnew " + lease, () -> real.billedAnew(lease), () -> model.billed(lease));
        same &= same("corrected " + lease, () -> real.corrected(lease), () -> model.corrected(lease));
        for (int hour = -2; hour < 302; hour++) {
            int h = hour;
            same &= same("isOf " + lease + " " + h, () -> real.isOf(lease, h) ? 1 : 0, () -> model.isOf(lease, h) ? 1 : 0);
        }
        return same;
    }
}
