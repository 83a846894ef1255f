import java.util.ArrayList;
import java.util.Arrays;

/**
 * A shopping street: people, lamps that count their steps, rents of doors by these counts, and buskers.
 * The parts inside trust what they are given; every argument is tested in the methods of the face.
 */
public final class LampCounts {
    private static final int SECTIONS = 12;
    private static final int HOURS = 200;
    private static final int CELLS = SECTIONS * HOURS;
    private static final int DOORS_OF_SECTION = 3;
    private static final int DOORS = SECTIONS * DOORS_OF_SECTION;
    private static final int TENANTS = 6;
    private static final int BUSKERS = 6;

    private static final int WHOLE = 100;
    private static final int MOST_PEOPLE = 1000;
    private static final int MOST_HOURS_AT_ONCE = 50;
    private static final int MOST_BLIND = 60;
    private static final int MOST_FINDINGS = 60;
    private static final int MOST_READING = 30000;
    private static final int MOST_BASE = 50;
    private static final int MOST_RATE = 50;
    private static final int MOST_HOURS_OF_LEASE = 100;
    private static final int MOST_LEASES = 30;
    private static final int MOST_COINS_AT_ONCE = 100000;
    private static final int MOST_PAID = 1000000;
    private static final int MOST_SKILL = 50;
    private static final int FIRST_SKILL = 10;
    private static final int CROWD_FOR_A_COIN = 10;
    private static final int MOST_LOT = 1000;
    private static final int MOST_LOTS = 50;

    private static final int NONE = -1;

    private final Street street;
    private final Lamps lamps;
    private final Buskers buskers;
    private final ArrayList<Lease> made;
    private final int[] paid;
    private int now;

    public LampCounts() {
        street = new Street();
        lamps = new Lamps();
        buskers = new Buskers();
        made = new ArrayList<>();
        paid = new int[TENANTS];
        now = 0;
    }

    // ---- people

    public int setPeople(int section, int people, int share)
            throws IndexOutOfBoundsException, IllegalArgumentException {
        requireIndex(section, SECTIONS);
        requireWithin(people, 0, MOST_PEOPLE);
        requireWithin(share, 0, WHOLE);
        int before = street.comeIn[section];
        street.comeIn[section] = people;
        street.leave[section] = share;
        return before;
    }

    public int pass(int hours) throws IllegalArgumentException, IllegalStateException {
        requireWithin(hours, 1, MOST_HOURS_AT_ONCE);
        requireState(now + hours <= HOURS);
        int sum = 0;
        for (int i = 0; i < hours; i++) {
            sum += endHour();
        }
        return sum;
    }

    // ---- lamps

    public int setLamp(int section, boolean works, int blind)
            throws IndexOutOfBoundsException, IllegalArgumentException {
        requireIndex(section, SECTIONS);
        requireWithin(blind, 0, MOST_BLIND);
        int before = lamps.blindSpots[section];
        lamps.broken[section] = !works;
        lamps.blindSpots[section] = blind;
        return before;
    }

    public int find(int section, int hour, int blind)
            throws IndexOutOfBoundsException, IllegalArgumentException, IllegalStateException {
        requireIndex(section, SECTIONS);
        requireWithin(hour, 0, now);
        requireWithin(blind, 0, MOST_BLIND);
        requireState(lamps.findings < MOST_FINDINGS);
        lamps.noteFinding(section, hour, blind);
        int change = 0;
        for (int ended = hour; ended < now; ended++) {
            change += recount(section, ended);
        }
        return change;
    }

    public int turnUp(int section, int hour, int reading)
            throws IndexOutOfBoundsException, IllegalArgumentException, IllegalStateException {
        requireIndex(section, SECTIONS);
        requireEnded(hour);
        requireWithin(reading, 0, MOST_READING);
        requireState(lamps.isLost(section, hour));
        lamps.readings[cell(section, hour)] = reading;
        return recount(section, hour);
    }

    // ---- leases

    public int lease(int door, int tenant, int base, int rate, int hours)
            throws IndexOutOfBoundsException, IllegalArgumentException, IllegalStateException {
        requireIndex(door, DOORS);
        requireIndex(tenant, TENANTS);
        requireWithin(base, 0, MOST_BASE);
        requireWithin(rate, 0, MOST_RATE);
        requireWithin(hours, 1, MOST_HOURS_OF_LEASE);
        requireState(made.size() < MOST_LEASES);
        Lease fresh = new Lease(door, tenant, base, rate, now, now + hours);
        requireState(!isDoorHeld(fresh));
        made.add(fresh);
        return made.size() - 1;
    }

    public int quit(int lease) throws IndexOutOfBoundsException, IllegalStateException {
        requireIndex(lease, made.size());
        Lease ending = made.get(lease);
        requireState(ending.end > now);
        ending.end = now;
        return now - ending.start;
    }

    public int pay(int tenant, int coins)
            throws IndexOutOfBoundsException, IllegalArgumentException, IllegalStateException {
        requireIndex(tenant, TENANTS);
        requireWithin(coins, 1, MOST_COINS_AT_ONCE);
        requireState(paid[tenant] + coins <= MOST_PAID);
        paid[tenant] += coins;
        return debt(tenant);
    }

    // ---- buskers

    public int setSkill(int busker, int skill) throws IndexOutOfBoundsException, IllegalArgumentException {
        requireIndex(busker, BUSKERS);
        requireWithin(skill, 0, MOST_SKILL);
        int before = buskers.skills[busker];
        buskers.skills[busker] = skill;
        return before;
    }

    public int ask(int busker, int section) throws IndexOutOfBoundsException, IllegalStateException {
        requireIndex(busker, BUSKERS);
        requireIndex(section, SECTIONS);
        int wish = Buskers.wish(busker, section);
        requireState(!buskers.asks[wish]);
        buskers.asks[wish] = true;
        return buskers.askedBy(busker);
    }

    public int lot(int number) throws IllegalArgumentException, IllegalStateException {
        requireWithin(number, 0, MOST_LOT);
        requireState(buskers.lotsLeft < MOST_LOTS);
        buskers.told[buskers.lotsLeft] = number;
        buskers.lotsLeft++;
        return buskers.lotsLeft;
    }

    // ---- what there is; nothing from here on changes anything

    public int hour() {
        return now;
    }

    public int steps(int section, int hour) throws IndexOutOfBoundsException, IllegalArgumentException {
        return street.walked[endedCell(section, hour)];
    }

    public int crowd(int section, int hour) throws IndexOutOfBoundsException, IllegalArgumentException {
        return street.stopped[endedCell(section, hour)];
    }

    public int through(int hour) throws IllegalArgumentException {
        requireEnded(hour);
        return street.wentOut[hour];
    }

    public int reading(int section, int hour) throws IndexOutOfBoundsException, IllegalArgumentException {
        return lamps.readings[endedCell(section, hour)];
    }

    public int taken(int section, int hour) throws IndexOutOfBoundsException, IllegalArgumentException {
        requireIndex(section, SECTIONS);
        requireWithin(hour, 0, HOURS - 1);
        return lamps.foundLast(section, hour);
    }

    public int count(int section, int hour) throws IndexOutOfBoundsException, IllegalArgumentException {
        return lamps.kept[endedCell(section, hour)];
    }

    public int countAnew(int section, int hour) throws IndexOutOfBoundsException, IllegalArgumentException {
        requireIndex(section, SECTIONS);
        requireEnded(hour);
        return lamps.foundAnew(section, hour);
    }

    public int missed(int hour) throws IllegalArgumentException {
        requireEnded(hour);
        int sum = 0;
        for (int section = 0; section < SECTIONS; section++) {
            int place = cell(section, hour);
            sum += Math.abs(lamps.kept[place] - street.walked[place]);
        }
        return sum;
    }

    // ---- leases as they are

    public int leases() {
        return made.size();
    }

    public boolean isOf(int lease, int hour) throws IndexOutOfBoundsException {
        requireIndex(lease, made.size());
        return made.get(lease).covers(hour);
    }

    public int billed(int lease) throws IndexOutOfBoundsException {
        requireIndex(lease, made.size());
        return made.get(lease).bill;
    }

    public int billedAnew(int lease) throws IndexOutOfBoundsException {
        requireIndex(lease, made.size());
        Lease asked = made.get(lease);
        int sum = 0;
        for (int ended = asked.start; ended < asked.end && ended < now; ended++) {
            sum += asked.rentFor(lamps.foundAnew(asked.section, ended));
        }
        return sum;
    }

    public int corrected(int lease) throws IndexOutOfBoundsException {
        requireIndex(lease, made.size());
        return made.get(lease).corrections;
    }

    public int owes(int tenant) throws IndexOutOfBoundsException {
        requireIndex(tenant, TENANTS);
        return debt(tenant);
    }

    // ---- buskers as they are

    public int player(int section, int hour) throws IndexOutOfBoundsException, IllegalArgumentException {
        return buskers.players[endedCell(section, hour)];
    }

    public int played(int busker) throws IndexOutOfBoundsException {
        requireIndex(busker, BUSKERS);
        return buskers.hoursPlayed[busker];
    }

    public int coins(int busker) throws IndexOutOfBoundsException {
        requireIndex(busker, BUSKERS);
        return buskers.purses[busker];
    }

    public int lots() {
        return buskers.lotsLeft;
    }

    // ---- what the calls above share

    private static void requireIndex(int index, int size) {
        if (index < 0 || index >= size) {
            throw new IndexOutOfBoundsException("there is no such one");
        }
    }

    private static void requireWithin(int value, int least, int most) {
        if (value < least || value > most) {
            throw new IllegalArgumentException("out of range");
        }
    }

    private static void requireState(boolean allowed) {
        if (!allowed) {
            throw new IllegalStateException("not as things are");
        }
    }

    private void requireEnded(int hour) {
        requireWithin(hour, 0, now - 1);
    }

    private int endedCell(int section, int hour) {
        requireIndex(section, SECTIONS);
        requireEnded(hour);
        return cell(section, hour);
    }

    private static int cell(int section, int hour) {
        return hour * SECTIONS + section;
    }

    private int endHour() {
        buskers.takePlaces(now);
        int sum = street.walk(now, buskers);
        lamps.read(now, street);
        billHour();
        now++;
        return sum;
    }

    private void billHour() {
        for (int i = 0; i < made.size(); i++) {
            Lease one = made.get(i);
            if (one.covers(now)) {
                one.bill += one.rentFor(lamps.kept[cell(one.section, now)]);
            }
        }
    }

    /** The gaps on both sides go as far as the next readings: no count beyond these leans on this lamp. */
    private int recount(int section, int hour) {
        if (lamps.isLost(section, hour)) {
            return 0;
        }
        int change = keepCount(section, hour, lamps.countOfReading(section, hour));
        for (int ahead = section - 1; ahead >= 0 && lamps.isLost(ahead, hour); ahead--) {
            change += keepCount(ahead, hour, lamps.filledFromKept(ahead, hour));
        }
        for (int behind = section + 1; behind < SECTIONS && lamps.isLost(behind, hour); behind++) {
            change += keepCount(behind, hour, lamps.filledFromKept(behind, hour));
        }
        return change;
    }

    private int keepCount(int section, int hour, int count) {
        int place = cell(section, hour);
        int before = lamps.kept[place];
        lamps.kept[place] = count;
        return count == before ? 0 : correctRents(section, hour, before, count);
    }

    private int correctRents(int section, int hour, int before, int after) {
        int change = 0;
        for (int i = 0; i < made.size(); i++) {
            Lease one = made.get(i);
            if (one.section == section && one.covers(hour)) {
                int difference = one.rentFor(after) - one.rentFor(before);
                one.bill += difference;
                one.corrections += difference;
                change += difference;
            }
        }
        return change;
    }

    private boolean isDoorHeld(Lease fresh) {
        for (int i = 0; i < made.size(); i++) {
            if (made.get(i).clashesWith(fresh)) {
                return true;
            }
        }
        return false;
    }

    private int debt(int tenant) {
        int sum = -paid[tenant];
        for (int i = 0; i < made.size(); i++) {
            Lease one = made.get(i);
            if (one.tenant == tenant) {
                sum += one.bill;
            }
        }
        return sum;
    }

    /** Who comes in and leaves, and what the ended hours saw. */
    private static final class Street {
        final int[] comeIn = new int[SECTIONS];
        final int[] leave = new int[SECTIONS];
        final int[] walked = new int[CELLS];
        final int[] stopped = new int[CELLS];
        final int[] wentOut = new int[HOURS];

        int walk(int hour, Buskers buskers) {
            int sum = 0;
            int arriving = 0;
            for (int section = 0; section < SECTIONS; section++) {
                int place = cell(section, hour);
                int passing = arriving + comeIn[section];
                int crowd = buskers.playTo(passing, buskers.players[place]);
                stopped[place] = crowd;
                walked[place] = passing + crowd;
                sum += walked[place];
                int going = passing - crowd;
                arriving = going - going * leave[section] / WHOLE;
            }
            wentOut[hour] = arriving;
            return sum;
        }
    }

    /** The lamps, what they read, what was found of them, and the counts that are kept. */
    private static final class Lamps {
        final boolean[] broken = new boolean[SECTIONS];
        final int[] blindSpots = new int[SECTIONS];
        final int[] readings = new int[CELLS];
        final int[] kept = new int[CELLS];
        final int[] foundSection = new int[MOST_FINDINGS];
        final int[] foundHour = new int[MOST_FINDINGS];
        final int[] foundBlind = new int[MOST_FINDINGS];
        int findings = 0;

        void noteFinding(int section, int hour, int blind) {
            foundSection[findings] = section;
            foundHour[findings] = hour;
            foundBlind[findings] = blind;
            findings++;
        }

        int foundLast(int section, int hour) {
            int blind = 0;
            for (int i = 0; i < findings; i++) {
                if (foundSection[i] == section && foundHour[i] <= hour) {
                    blind = foundBlind[i];
                }
            }
            return blind;
        }

        boolean isLost(int section, int hour) {
            return readings[cell(section, hour)] == NONE;
        }

        /** All lamps read before any gap is filled: a gap may lean on a lamp behind it. */
        void read(int hour, Street street) {
            for (int section = 0; section < SECTIONS; section++) {
                int place = cell(section, hour);
                int steps = street.walked[place];
                readings[place] = broken[section] ? NONE : steps - steps * blindSpots[section] / WHOLE;
            }
            for (int section = 0; section < SECTIONS; section++) {
                if (!isLost(section, hour)) {
                    kept[cell(section, hour)] = countOfReading(section, hour);
                }
            }
            for (int section = 0; section < SECTIONS; section++) {
                if (isLost(section, hour)) {
                    kept[cell(section, hour)] = filledFromKept(section, hour);
                }
            }
        }

        int countOfReading(int section, int hour) {
            int seen = WHOLE - foundLast(section, hour);
            return seen > 0 ? WHOLE * readings[cell(section, hour)] / seen : 0;
        }

        int filledFromKept(int section, int hour) {
            int ahead = nearestAhead(section, hour);
            int behind = nearestBehind(section, hour);
            return filled(ahead == NONE ? NONE : kept[cell(ahead, hour)],
                    behind == NONE ? NONE : kept[cell(behind, hour)]);
        }

        int foundAnew(int section, int hour) {
            if (!isLost(section, hour)) {
                return countOfReading(section, hour);
            }
            int ahead = nearestAhead(section, hour);
            int behind = nearestBehind(section, hour);
            return filled(ahead == NONE ? NONE : countOfReading(ahead, hour),
                    behind == NONE ? NONE : countOfReading(behind, hour));
        }

        int nearestAhead(int section, int hour) {
            for (int ahead = section - 1; ahead >= 0; ahead--) {
                if (!isLost(ahead, hour)) {
                    return ahead;
                }
            }
            return NONE;
        }

        int nearestBehind(int section, int hour) {
            for (int behind = section + 1; behind < SECTIONS; behind++) {
                if (!isLost(behind, hour)) {
                    return behind;
                }
            }
            return NONE;
        }

        static int filled(int countAhead, int countBehind) {
            if (countAhead == NONE && countBehind == NONE) {
                return 0;
            }
            if (countAhead == NONE) {
                return countBehind;
            }
            return countBehind == NONE ? countAhead : (countAhead + countBehind) / 2;
        }
    }

    /** A lease has the hours from start on, up to the one ahead of end. */
    private static final class Lease {
        final int door;
        final int section;
        final int tenant;
        final int base;
        final int rate;
        final int start;
        int end;
        int bill = 0;
        int corrections = 0;

        Lease(int door, int tenant, int base, int rate, int start, int end) {
            this.door = door;
            this.section = door / DOORS_OF_SECTION;
            this.tenant = tenant;
            this.base = base;
            this.rate = rate;
            this.start = start;
            this.end = end;
        }

        boolean covers(int hour) {
            return hour >= start && hour < end;
        }

        boolean clashesWith(Lease other) {
            return door == other.door && start < other.end && other.start < end;
        }

        int rentFor(int count) {
            return base + rate * count / WHOLE;
        }
    }

    /** The buskers, what they ask for in the hour of now, the lots, and who played where. */
    private static final class Buskers {
        final int[] skills = new int[BUSKERS];
        final int[] hoursPlayed = new int[BUSKERS];
        final int[] purses = new int[BUSKERS];
        final boolean[] asks = new boolean[BUSKERS * SECTIONS];
        final boolean[] playing = new boolean[BUSKERS];
        final int[] tied = new int[BUSKERS];
        final int[] players = new int[CELLS];
        final int[] told = new int[MOST_LOTS];
        int lotsLeft = 0;

        Buskers() {
            Arrays.fill(skills, FIRST_SKILL);
        }

        static int wish(int busker, int section) {
            return busker * SECTIONS + section;
        }

        int askedBy(int busker) {
            int sum = 0;
            for (int section = 0; section < SECTIONS; section++) {
                sum += asks[wish(busker, section)] ? 1 : 0;
            }
            return sum;
        }

        void takePlaces(int hour) {
            for (int section = 0; section < SECTIONS; section++) {
                int chosen = choose(section);
                players[cell(section, hour)] = chosen;
                if (chosen >= 0 && chosen < BUSKERS) {
                    playing[chosen] = true;
                    hoursPlayed[chosen]++;
                }
            }
            endAsking();
        }

        /** Only who does not play yet is weighed, so hours played are still those of the hour's beginning. */
        int choose(int section) {
            int fewest = fewestHours(section);
            int remaining = 0;
            for (int busker = 0; busker < BUSKERS; busker++) {
                if (wants(busker, section) && hoursPlayed[busker] == fewest) {
                    tied[remaining] = busker;
                    remaining++;
                }
            }
            if (remaining == 0) {
                return NONE;
            }
            return remaining == 1 ? tied[0] : tied[drawLot() % remaining];
        }

        int fewestHours(int section) {
            int fewest = HOURS;
            for (int busker = 0; busker < BUSKERS; busker++) {
                if (wants(busker, section)) {
                    fewest = Math.min(fewest, hoursPlayed[busker]);
                }
            }
            return fewest;
        }

        boolean wants(int busker, int section) {
            return asks[wish(busker, section)] && !playing[busker];
        }

        int drawLot() {
            if (lotsLeft == 0) {
                return 0;
            }
            int drawn = told[0];
            lotsLeft--;
            System.arraycopy(told, 1, told, 0, lotsLeft);
            return drawn;
        }

        void endAsking() {
            for (int busker = 0; busker < BUSKERS; busker++) {
                playing[busker] = false;
                for (int section = 0; section < SECTIONS; section++) {
                    asks[wish(busker, section)] = false;
                }
            }
        }

        /** Tells the crowd, and puts its coins into the purse; without a busker nobody stops. */
        int playTo(int passing, int busker) {
            if (busker < 0 || busker >= BUSKERS) {
                return 0;
            }
            int crowd = passing * skills[busker] / WHOLE;
            purses[busker] += crowd / CROWD_FOR_A_COIN;
            return crowd;
        }
    }
}
