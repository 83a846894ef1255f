import java.util.ArrayList;
import java.util.List;

/**
 * The street told a second time, as plainly as can be: it keeps what happened and works out every answer anew.
 * It shares no code with LampCounts, so that a slip in one of them shows as a difference.
 */
final class Model {
    private record Finding(int section, int from, int blind) {
    }

    private static final class Hour {
        final int[] steps = new int[12];
        final int[] crowd = new int[12];
        final int[] reading = new int[12];
        final int[] player = new int[12];
        int through;
    }

    private static final class Lease {
        int door;
        int tenant;
        int base;
        int rate;
        int first;
        int last;
        boolean ended;
        int firstBilled;
    }

    private final int[] people = new int[12];
    private final int[] share = new int[12];
    private final boolean[] works = {true, true, true, true, true, true, true, true, true, true, true, true};
    private final int[] blind = new int[12];
    private final int[] skill = {10, 10, 10, 10, 10, 10};
    private final int[] coins = new int[6];
    private final int[] paid = new int[6];
    private final List<Hour> hours = new ArrayList<>();
    private final List<Finding> findings = new ArrayList<>();
    private final List<Lease> leases = new ArrayList<>();
    private final List<List<Integer>> asked = new ArrayList<>();
    private final List<Integer> lots = new ArrayList<>();

    Model() {
        for (int busker = 0; busker < 6; busker++) {
            asked.add(new ArrayList<>());
        }
    }

    private static void index(int value, int size) {
        if (value < 0 || value >= size) {
            throw new IndexOutOfBoundsException();
        }
    }

    private static void range(int value, int least, int most) {
        if (value < least || value > most) {
            throw new IllegalArgumentException();
        }
    }

    private static void refuse(boolean wrong) {
        if (wrong) {
            throw new IllegalStateException();
        }
    }

    private Hour ended(int hour) {
        range(hour, 0, hours.size() - 1);
        return hours.get(hour);
    }

    private Hour ended(int section, int hour) {
        index(section, 12);
        return ended(hour);
    }

    int setPeople(int section, int newPeople, int newShare) {
        index(section, 12);
        range(newPeople, 0, 1000);
        range(newShare, 0, 100);
        int before = people[section];
        people[section] = newPeople;
        share[section] = newShare;
        return before;
    }

    int pass(int many) {
        range(many, 1, 50);
        refuse(hours.size() + many > 200);
        int sum = 0;
        for (int i = 0; i < many; i++) {
            Hour hour = oneHour();
            for (int steps : hour.steps) {
                sum += steps;
            }
        }
        return sum;
    }

    private Hour oneHour() {
        Hour hour = new Hour();
        places(hour);
        int from = 0;
        for (int section = 0; section < 12; section++) {
            int come = from + people[section];
            int busker = hour.player[section];
            int stop = 0;
            if (busker != -1) {
                stop = come * skill[busker] / 100;
                coins[busker] += stop / 10;
            }
            int others = come - stop;
            int leaving = others * share[section] / 100;
            from = others - leaving;
            hour.crowd[section] = stop;
            hour.steps[section] = come + stop;
            int hidden = hour.steps[section] * blind[section] / 100;
            hour.reading[section] = works[section] ? hour.steps[section] - hidden : -1;
        }
        hour.through = from;
        hours.add(hour);
        for (Lease lease : leases) {
            if (hours.size() - 1 >= lease.first && hours.size() - 1 <= lease.last) {
                lease.firstBilled += rent(lease, hours.size() - 1);
            }
        }
        return hour;
    }

    private void places(Hour hour) {
        List<Integer> free = new ArrayList<>(List.of(0, 1, 2, 3, 4, 5));
        int[] before = new int[6];
        for (int busker = 0; busker < 6; busker++) {
            before[busker] = played(busker);
        }
        for (int section = 0; section < 12; section++) {
            List<Integer> best = new ArrayList<>();
            for (Integer busker : free) {
                if (!asked.get(busker).contains(section)) {
                    continue;
                }
                if (!best.isEmpty() && before[busker] < before[best.get(0)]) {
                    best.clear();
                }
                if (best.isEmpty() || before[busker] == before[best.get(0)]) {
                    best.add(busker);
                }
            }
            hour.player[section] = -1;
            if (!best.isEmpty()) {
                int number = 0;
                if (best.size() > 1 && !lots.isEmpty()) {
                    number = lots.remove(0);
                }
                Integer chosen = best.get(number % best.size());
                hour.player[section] = chosen;
                free.remove(chosen);
            }
        }
        for (List<Integer> wishes : asked) {
            wishes.clear();
        }
    }

    private int rent(Lease lease, int hour) {
        return lease.base + lease.rate * count(lease.door / 3, hour) / 100;
    }

    int setLamp(int section, boolean working, int newBlind) {
        index(section, 12);
        range(newBlind, 0, 60);
        int before = blind[section];
        works[section] = working;
        blind[section] = newBlind;
        return before;
    }

    private int allBilled() {
        int sum = 0;
        for (int i = 0; i < leases.size(); i++) {
            sum += billed(i);
        }
        return sum;
    }

    int find(int section, int hour, int spot) {
        index(section, 12);
        range(hour, 0, hours.size());
        range(spot, 0, 60);
        refuse(findings.size() == 60);
        int before = allBilled();
        findings.add(new Finding(section, hour, spot));
        return allBilled() - before;
    }

    int turnUp(int section, int hour, int reading) {
        Hour told = ended(section, hour);
        range(reading, 0, 30000);
        refuse(told.reading[section] != -1);
        int before = allBilled();
        told.reading[section] = reading;
        return allBilled() - before;
    }

    int lease(int door, int tenant, int base, int rate, int many) {
        index(door, 36);
        index(tenant, 6);
        range(base, 0, 50);
        range(rate, 0, 50);
        range(many, 1, 100);
        refuse(leases.size() == 30);
        int now = hours.size();
        for (int i = 0; i < leases.size(); i++) {
            for (int hour = now; hour < now + many; hour++) {
                refuse(leases.get(i).door == door && isOf(i, hour));
            }
        }
        Lease made = new Lease();
        made.door = door;
        made.tenant = tenant;
        made.base = base;
        made.rate = rate;
        made.first = now;
        made.last = now + many - 1;
        leases.add(made);
        return leases.size() - 1;
    }

    int quit(int lease) {
        index(lease, leases.size());
        Lease one = leases.get(lease);
        refuse(one.ended || one.last < hours.size());
        one.ended = true;
        one.last = hours.size() - 1;
        return one.last - one.first + 1;
    }

    int pay(int tenant, int amount) {
        index(tenant, 6);
        range(amount, 1, 100000);
        refuse(paid[tenant] + amount > 1000000);
        paid[tenant] += amount;
        return owes(tenant);
    }

    int setSkill(int busker, int newSkill) {
        index(busker, 6);
        range(newSkill, 0, 50);
        int before = skill[busker];
        skill[busker] = newSkill;
        return before;
    }

    int ask(int busker, int section) {
        index(busker, 6);
        index(section, 12);
        refuse(asked.get(busker).contains(section));
        asked.get(busker).add(section);
        return asked.get(busker).size();
    }

    int lot(int number) {
        range(number, 0, 1000);
        refuse(lots.size() == 50);
        lots.add(number);
        return lots.size();
    }

    int hour() {
        return hours.size();
    }

    int steps(int section, int hour) {
        return ended(section, hour).steps[section];
    }

    int crowd(int section, int hour) {
        return ended(section, hour).crowd[section];
    }

    int through(int hour) {
        return ended(hour).through;
    }

    int reading(int section, int hour) {
        return ended(section, hour).reading[section];
    }

    int taken(int section, int hour) {
        index(section, 12);
        range(hour, 0, 199);
        for (int i = findings.size() - 1; i >= 0; i--) {
            if (findings.get(i).section() == section && findings.get(i).from() <= hour) {
                return findings.get(i).blind();
            }
        }
        return 0;
    }

    int count(int section, int hour) {
        int reading = ended(section, hour).reading[section];
        if (reading != -1) {
            return 100 * reading / (100 - taken(section, hour));
        }
        int sum = 0;
        int sides = 0;
        for (int step = -1; step <= 1; step += 2) {
            int other = section;
            while (other >= 0 && other < 12 && reading(other, hour) == -1) {
                other += step;
            }
            if (other >= 0 && other < 12) {
                sum += count(other, hour);
                sides++;
            }
        }
        return sides == 0 ? 0 : sum / sides;
    }

    int missed(int hour) {
        Hour told = ended(hour);
        int sum = 0;
        for (int section = 0; section < 12; section++) {
            sum += Math.abs(told.steps[section] - count(section, hour));
        }
        return sum;
    }

    int leases() {
        return leases.size();
    }

    boolean isOf(int lease, int hour) {
        index(lease, leases.size());
        return hour >= leases.get(lease).first && hour <= leases.get(lease).last;
    }

    int billed(int lease) {
        index(lease, leases.size());
        int sum = 0;
        for (int hour = 0; hour < hours.size(); hour++) {
            sum += isOf(lease, hour) ? rent(leases.get(lease), hour) : 0;
        }
        return sum;
    }

    int corrected(int lease) {
        return billed(lease) - leases.get(lease).firstBilled;
    }

    int owes(int tenant) {
        index(tenant, 6);
        int sum = -paid[tenant];
        for (int i = 0; i < leases.size(); i++) {
            sum += leases.get(i).tenant == tenant ? billed(i) : 0;
        }
        return sum;
    }

    int player(int section, int hour) {
        return ended(section, hour).player[section];
    }

    int played(int busker) {
        index(busker, 6);
        int sum = 0;
        for (Hour hour : hours) {
            for (int player : hour.player) {
                sum += player == busker ? 1 : 0;
            }
        }
        return sum;
    }

    int coins(int busker) {
        index(busker, 6);
        return coins[busker];
    }

    int lots() {
        return lots.size();
    }
}
