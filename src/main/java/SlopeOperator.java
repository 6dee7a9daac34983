import java.util.NoSuchElementException;

/** An operator of lifts and pistes; the document ../shared/DOC.md says what each method promises. */
public final class SlopeOperator {
    private static final int STATIONS = 8;
    private static final int MOST_LIFTS = 6;
    private static final int MOST_PISTES = 10;
    private static final int MOST_GUESTS = 16;
    private static final int MOST_IN_QUEUE = 10;
    private static final int ZONES = 4;
    private static final int ALL_ZONES = 15;
    private static final int STRONGEST_WIND = 9;
    private static final int WORN_OUT = 20;
    private static final int LAST_TICK = 1000;
    private static final int LAST_DAY = 1000;
    private static final int MOST_TICKS_A_CALL = 50;
    private static final int ARRIVAL_HORIZON = 60;
    private static final int MOST_REMEMBERED = 8;
    private static final int MOST_CHARACTERS = 60;
    /** The shortest entry, such as "w0;", has 3 characters. */
    private static final int MOST_ENTRIES = MOST_CHARACTERS / 3;
    private static final int FIRST_PISTE_PART = 100;

    private static final int AT_STATION = 0;
    private static final int IN_QUEUE = 1;
    private static final int RIDING = 2;
    private static final int SKIING = 3;
    private static final int AWAY = 4;

    private static final int OPEN = 0;
    private static final int CLOSED = 1;
    private static final int GROOMED = 2;

    /** Two steps of a clock or a rest are one tick of a lift that runs. */
    private static final int FULL_SPEED = 2;
    private static final int SLOW_SPEED = 1;
    private static final int NO_SPEED = 0;

    private static final int NO_REASON = 0;
    private static final int NOT_AT_STATION = 1;
    private static final int BEGINS_ELSEWHERE = 2;
    private static final int TICKET_DOES_NOT_OPEN = 3;
    private static final int LIFT_HELD = 4;
    private static final int QUEUE_FULL = 5;
    private static final int PISTE_NOT_OPEN = 6;
    private static final int TOO_DIFFICULT = 7;

    /** What an entry of a text answers beside the reasons of refusals. */
    private static final int ENTRY_DONE = 0;
    private static final int ENTRY_IMPOSSIBLE = -1;

    /** Longer than every way, and short enough to add to it without wrapping around. */
    private static final int NO_WAY = 1000000;
    /** No guest, lift, part, digit or number of ticks is like this. */
    private static final int NONE = -1;
    private static final int NOTHING_KEPT = -1;

    private final Area now;
    private final Area before;
    private final Area saved;
    private final History history;
    private final Input input;
    private final Ways ways;
    private boolean isSaved;
    private int keptReason;
    private int keptError;

    public SlopeOperator() {
        now = new Area();
        before = new Area();
        saved = new Area();
        history = new History();
        input = new Input();
        ways = new Ways();
        isSaved = false;
        keptReason = NO_REASON;
        keptError = NOTHING_KEPT;
    }

    public int clear() {
        int guests = now.guestCount;
        now.becomeEmpty();
        history.forgetAll();
        return guests;
    }

    public int addLift(int lower, int upper, int zone, int interval, int capacity, int ride)
            throws IndexOutOfBoundsException, IllegalArgumentException, IllegalStateException {
        if (!isStation(lower) || !isStation(upper)) {
            throw new IndexOutOfBoundsException("no such station");
        }
        if (lower == upper || !isBetween(zone, 0, ZONES - 1) || !isBetween(interval, 1, 6)
                || !isBetween(capacity, 1, 8) || !isBetween(ride / 10, 1, 9) || !isBetween(ride % 10, 0, 3)) {
            throw new IllegalArgumentException("no such lift is possible");
        }
        if (now.liftCount >= MOST_LIFTS) {
            throw new IllegalStateException("there are 6 lifts");
        }
        history.remember(now);
        now.lifts[now.liftCount].begin(lower, upper, zone, interval, capacity, ride);
        now.liftCount++;
        return now.liftCount - 1;
    }

    public int addPiste(int from, int to, int difficulty, int length)
            throws IndexOutOfBoundsException, IllegalArgumentException, IllegalStateException {
        if (!isStation(from) || !isStation(to)) {
            throw new IndexOutOfBoundsException("no such station");
        }
        if (from == to || !isBetween(difficulty, 1, 3) || !isBetween(length, 1, 9)) {
            throw new IllegalArgumentException("no such piste is possible");
        }
        if (now.pisteCount >= MOST_PISTES) {
            throw new IllegalStateException("there are 10 pistes");
        }
        history.remember(now);
        now.pistes[now.pisteCount].begin(from, to, difficulty, length);
        now.pisteCount++;
        return now.pisteCount - 1;
    }

    public int setWind(int wind) throws IllegalArgumentException {
        if (!isBetween(wind, 0, STRONGEST_WIND)) {
            throw new IllegalArgumentException("the wind is 0 to 9");
        }
        history.remember(now);
        now.wind = wind;
        return now.heldLifts();
    }

    public int lift(int lift, int what) throws IndexOutOfBoundsException, IllegalArgumentException {
        Lift which = now.liftAt(lift);
        if (which == null) {
            throw new IndexOutOfBoundsException("no such lift");
        }
        switch (what) {
            case 0: return which.lower;
            case 1: return which.upper;
            case 2: return which.zone;
            case 3: return which.interval;
            case 4: return which.capacity;
            case 5: return which.ride;
            case 6: return which.exposure;
            // The states count the other way round: 0 for the full speed.
            case 7: return FULL_SPEED - now.speedOf(which);
            case 8: return which.clock;
            case 9: return now.guestsWith(IN_QUEUE, lift);
            case 10: return now.guestsWith(RIDING, lift);
            default: throw new IllegalArgumentException("what is 0 to 10");
        }
    }

    public int piste(int piste, int what) throws IndexOutOfBoundsException, IllegalArgumentException {
        Piste which = now.pisteAt(piste);
        if (which == null) {
            throw new IndexOutOfBoundsException("no such piste");
        }
        switch (what) {
            case 0: return which.from;
            case 1: return which.to;
            case 2: return which.difficulty;
            case 3: return which.length;
            case 4: return which.state;
            case 5: return which.wear;
            case 6: return which.rest;
            case 7: return now.guestsWith(SKIING, piste);
            default: throw new IllegalArgumentException("what is 0 to 7");
        }
    }

    public int open(int piste, boolean isOpen) throws IndexOutOfBoundsException, IllegalStateException {
        Piste which = now.pisteAt(piste);
        if (which == null) {
            throw new IndexOutOfBoundsException("no such piste");
        }
        if (isOpen && which.wear >= WORN_OUT) {
            throw new IllegalStateException("the piste is worn out");
        }
        history.remember(now);
        int previous = which.state;
        which.state = isOpen ? OPEN : CLOSED;
        which.rest = 0;
        return previous;
    }

    public int groom(int piste) throws IndexOutOfBoundsException, IllegalStateException {
        Piste which = now.pisteAt(piste);
        if (which == null) {
            throw new IndexOutOfBoundsException("no such piste");
        }
        if (which.state != CLOSED) {
            throw new IllegalStateException("the piste is not closed");
        }
        history.remember(now);
        which.state = GROOMED;
        which.rest = 1 + which.wear / 5;
        return which.rest;
    }

    public int count(int what) throws IllegalArgumentException {
        switch (what) {
            case 0: return now.liftCount;
            case 1: return now.pisteCount;
            case 2: return now.guestCount;
            case 3: return now.wind;
            case 4: return now.tick;
            case 5: return now.day;
            case 6: return now.guestsIn(AT_STATION);
            case 7: return now.guestsIn(IN_QUEUE);
            case 8: return now.guestsIn(RIDING);
            case 9: return now.guestsIn(SKIING);
            case 10: return now.guestsIn(AWAY);
            case 11: return now.openPistes();
            default: throw new IllegalArgumentException("what is 0 to 11");
        }
    }

    public int addGuest(int station, int skill, int zones, int first, int last)
            throws IndexOutOfBoundsException, IllegalArgumentException, IllegalStateException {
        if (!isStation(station)) {
            throw new IndexOutOfBoundsException("no such station");
        }
        if (!isBetween(skill, 1, 3) || !isBetween(zones, 0, ALL_ZONES)
                || !isBetween(first, 0, LAST_DAY) || !isBetween(last, 0, LAST_DAY)) {
            throw new IllegalArgumentException("no such guest is possible");
        }
        if (now.guestCount >= MOST_GUESTS) {
            throw new IllegalStateException("there are 16 guests");
        }
        history.remember(now);
        return now.welcome(station, skill, zones, first, last);
    }

    public int guest(int guest, int what) throws IndexOutOfBoundsException, IllegalArgumentException {
        Guest who = now.guestAt(guest);
        if (who == null) {
            throw new IndexOutOfBoundsException("no such guest");
        }
        switch (what) {
            case 0: return who.state;
            case 1: return who.where;
            case 2: return who.state == IN_QUEUE ? who.place : who.rest;
            case 3: return who.skill;
            case 4: return who.zones;
            case 5: return who.first;
            case 6: return who.last;
            default: throw new IllegalArgumentException("what is 0 to 6");
        }
    }

    public int queue(int guest, int lift) throws IndexOutOfBoundsException, UnsupportedOperationException {
        Guest who = now.guestAt(guest);
        Lift which = now.liftAt(lift);
        if (who == null || which == null) {
            throw new IndexOutOfBoundsException("no such guest or lift");
        }
        int refusal = now.queueRefusal(who, which, lift);
        if (refusal != NO_REASON) {
            keepRefusal(who, refusal);
            throw new UnsupportedOperationException("refused");
        }
        history.remember(now);
        return now.joinQueue(who, lift);
    }

    public int ski(int guest, int piste) throws IndexOutOfBoundsException, UnsupportedOperationException {
        Guest who = now.guestAt(guest);
        Piste which = now.pisteAt(piste);
        if (who == null || which == null) {
            throw new IndexOutOfBoundsException("no such guest or piste");
        }
        int refusal = now.skiRefusal(who, which);
        if (refusal != NO_REASON) {
            keepRefusal(who, refusal);
            throw new UnsupportedOperationException("refused");
        }
        history.remember(now);
        return now.startPiste(who, which, piste);
    }

    public int leave(int guest) throws IndexOutOfBoundsException, IllegalStateException {
        Guest who = now.guestAt(guest);
        if (who == null) {
            throw new IndexOutOfBoundsException("no such guest");
        }
        if (who.state != AT_STATION && who.state != IN_QUEUE) {
            throw new IllegalStateException("the guest rides, skis or is away");
        }
        history.remember(now);
        if (who.state == AT_STATION) {
            who.goAway();
        } else {
            now.leaveQueue(who);
        }
        return who.state;
    }

    public int whyNotQueue(int guest, int lift) throws IndexOutOfBoundsException {
        Guest who = now.guestAt(guest);
        Lift which = now.liftAt(lift);
        if (who == null || which == null) {
            throw new IndexOutOfBoundsException("no such guest or lift");
        }
        return now.queueRefusal(who, which, lift);
    }

    public int whyNotSki(int guest, int piste) throws IndexOutOfBoundsException {
        Guest who = now.guestAt(guest);
        Piste which = now.pisteAt(piste);
        if (who == null || which == null) {
            throw new IndexOutOfBoundsException("no such guest or piste");
        }
        return now.skiRefusal(who, which);
    }

    public int reason() throws NoSuchElementException {
        if (keptReason == NO_REASON) {
            throw new NoSuchElementException("no reason was kept");
        }
        return keptReason;
    }

    public int opened(int guest) throws IndexOutOfBoundsException {
        Guest who = now.guestAt(guest);
        if (who == null) {
            throw new IndexOutOfBoundsException("no such guest");
        }
        return now.liftsOpenedFor(who);
    }

    public int queued(int lift, int place) throws IndexOutOfBoundsException, NoSuchElementException {
        if (now.liftAt(lift) == null) {
            throw new IndexOutOfBoundsException("no such lift");
        }
        int guest = now.guestInQueue(lift, place);
        if (guest == NONE) {
            throw new NoSuchElementException("no such place in the queue");
        }
        return guest;
    }

    public int advance(int ticks) throws IllegalArgumentException, IllegalStateException {
        if (!isBetween(ticks, 1, MOST_TICKS_A_CALL)) {
            throw new IllegalArgumentException("the ticks are 1 to 50");
        }
        if (now.tick + ticks > LAST_TICK) {
            throw new IllegalStateException("the tick number would be greater than 1000");
        }
        history.remember(now);
        return now.passTicks(ticks);
    }

    public int endDay() throws IllegalStateException {
        if (now.day >= LAST_DAY) {
            throw new IllegalStateException("the day number is 1000");
        }
        history.remember(now);
        return now.closeDay();
    }

    public int arrival(int guest) throws IndexOutOfBoundsException, NoSuchElementException {
        Guest who = now.guestAt(guest);
        if (who == null) {
            throw new IndexOutOfBoundsException("no such guest");
        }
        int ticks = now.ticksToStation(who);
        if (ticks == NONE || ticks > ARRIVAL_HORIZON) {
            throw new NoSuchElementException("the guest does not come to a station");
        }
        return ticks;
    }

    public int nextCabin(int lift) throws IndexOutOfBoundsException, NoSuchElementException {
        Lift which = now.liftAt(lift);
        if (which == null) {
            throw new IndexOutOfBoundsException("no such lift");
        }
        int speed = now.speedOf(which);
        if (speed == NO_SPEED) {
            throw new NoSuchElementException("the lift is held");
        }
        return ticksFor(which.stepsToCabin(1), speed);
    }

    public int duration(int guest, int from, int to) throws IndexOutOfBoundsException, NoSuchElementException {
        Guest who = now.guestAt(guest);
        if (who == null || !isStation(from) || !isStation(to)) {
            throw new IndexOutOfBoundsException("no such guest or station");
        }
        ways.measure(now, who, to);
        int duration = ways.durationFrom(from);
        if (duration >= NO_WAY) {
            throw new NoSuchElementException("there is no way");
        }
        return duration;
    }

    public int firstPart(int guest, int from, int to) throws IndexOutOfBoundsException, NoSuchElementException {
        Guest who = now.guestAt(guest);
        if (who == null || !isStation(from) || !isStation(to)) {
            throw new IndexOutOfBoundsException("no such guest or station");
        }
        ways.measure(now, who, to);
        int part = from == to ? NONE : ways.bestPartFrom(now, who, from);
        if (part == NONE) {
            throw new NoSuchElementException("there is no way");
        }
        return part;
    }

    public int reachable(int guest, int station) throws IndexOutOfBoundsException {
        Guest who = now.guestAt(guest);
        if (who == null || !isStation(station)) {
            throw new IndexOutOfBoundsException("no such guest or station");
        }
        return ways.stationsFrom(now, who, station);
    }

    public int stranded(int guest, int station) throws IndexOutOfBoundsException {
        Guest who = now.guestAt(guest);
        if (who == null || !isStation(station)) {
            throw new IndexOutOfBoundsException("no such guest or station");
        }
        ways.measure(now, who, station);
        return ways.stationsWithoutWay();
    }

    public int liftAccount(int lift, int account) throws IndexOutOfBoundsException, IllegalArgumentException {
        Lift which = now.liftAt(lift);
        if (which == null) {
            throw new IndexOutOfBoundsException("no such lift");
        }
        switch (account) {
            case 0: return which.riders;
            case 1: return which.cabins;
            default: throw new IllegalArgumentException("the account is 0 or 1");
        }
    }

    public int guestAccount(int guest, int account) throws IndexOutOfBoundsException, IllegalArgumentException {
        Guest who = now.guestAt(guest);
        if (who == null) {
            throw new IndexOutOfBoundsException("no such guest");
        }
        switch (account) {
            case 0: return who.rides;
            case 1: return who.runs;
            case 2: return who.refusals;
            default: throw new IllegalArgumentException("the account is 0 to 2");
        }
    }

    public int pisteAccount(int piste) throws IndexOutOfBoundsException {
        Piste which = now.pisteAt(piste);
        if (which == null) {
            throw new IndexOutOfBoundsException("no such piste");
        }
        return which.begun;
    }

    public int audit() {
        return now.accountsGap();
    }

    public int busiest() throws NoSuchElementException {
        int lift = now.liftWithMostRiders();
        if (lift == NONE) {
            throw new NoSuchElementException("no guest rode");
        }
        return lift;
    }

    public double load(int lift) throws IndexOutOfBoundsException, ArithmeticException {
        Lift which = now.liftAt(lift);
        if (which == null) {
            throw new IndexOutOfBoundsException("no such lift");
        }
        if (which.cabins == 0) {
            throw new ArithmeticException("no cabin departed");
        }
        return (double) which.riders / (double) which.cabins;
    }

    public int append(char character) throws IllegalArgumentException, IllegalStateException {
        if (!isBetween(character, 32, 126)) {
            throw new IllegalArgumentException("the character code is 32 to 126");
        }
        if (input.length >= MOST_CHARACTERS) {
            throw new IllegalStateException("the input has 60 characters");
        }
        return input.put(character);
    }

    public int read() throws IllegalArgumentException, IllegalStateException {
        if (!input.isText()) {
            keptError = input.cursor;
            input.becomeEmpty();
            throw new IllegalArgumentException("the input is not a text");
        }
        int entries = input.entries;
        before.copyFrom(now);
        int outcome = doEntries(entries);
        input.becomeEmpty();
        if (outcome != ENTRY_DONE) {
            now.copyFrom(before);
            if (outcome != ENTRY_IMPOSSIBLE) {
                keptReason = outcome;
            }
            throw new IllegalStateException("an entry cannot be done");
        }
        history.remember(before);
        return entries;
    }

    public int errorPosition() throws NoSuchElementException {
        if (keptError == NOTHING_KEPT) {
            throw new NoSuchElementException("no error position was kept");
        }
        return keptError;
    }

    public int undo() throws NoSuchElementException {
        if (history.size <= 0) {
            throw new NoSuchElementException("no change is remembered");
        }
        history.takeBack(now);
        return history.size;
    }

    public int save() {
        saved.copyFrom(now);
        isSaved = true;
        return now.guestCount;
    }

    public int restore() throws IllegalStateException {
        if (!isSaved) {
            throw new IllegalStateException("nothing was saved");
        }
        now.copyFrom(saved);
        history.forgetAll();
        return now.guestCount;
    }

    private static boolean isBetween(int number, int lowest, int highest) {
        return number >= lowest && number <= highest;
    }

    private static boolean isStation(int station) {
        return isBetween(station, 0, STATIONS - 1);
    }

    /** The ticks in which so many steps are done or passed, with a speed that is not 0. */
    private static int ticksFor(int steps, int speed) {
        return speed == FULL_SPEED ? (steps + 1) / 2 : steps;
    }

    private void keepRefusal(Guest who, int refusal) {
        keptReason = refusal;
        who.refusals++;
    }

    /** Does the entries of the checked text; answers like doEntry for the first that cannot be done. */
    private int doEntries(int entries) {
        input.cursor = 0;
        for (int i = 0; i < entries; i++) {
            if (!input.takeEntry()) {
                return ENTRY_IMPOSSIBLE;
            }
            int outcome = doEntry(input.kind, input.number, input.target);
            if (outcome != ENTRY_DONE) {
                return outcome;
            }
        }
        return ENTRY_DONE;
    }

    /** Answers ENTRY_DONE, ENTRY_IMPOSSIBLE, or the reason of a refusal. */
    private int doEntry(int kind, int number, int target) {
        switch (kind) {
            case 'g': return addGuestByText(number, target);
            case 'q': return queueByText(number, target);
            case 's': return skiByText(number, target);
            case 't':
                if (now.tick + number > LAST_TICK) {
                    return ENTRY_IMPOSSIBLE;
                }
                now.passTicks(number);
                return ENTRY_DONE;
            case 'w':
                now.wind = number;
                return ENTRY_DONE;
            default: return ENTRY_IMPOSSIBLE;
        }
    }

    private int addGuestByText(int station, int skill) {
        if (now.guestCount >= MOST_GUESTS) {
            return ENTRY_IMPOSSIBLE;
        }
        now.welcome(station, skill, ALL_ZONES, now.day, now.day);
        return ENTRY_DONE;
    }

    private int queueByText(int guest, int lift) {
        Guest who = now.guestAt(guest);
        Lift which = now.liftAt(lift);
        if (who == null || which == null) {
            return ENTRY_IMPOSSIBLE;
        }
        int refusal = now.queueRefusal(who, which, lift);
        if (refusal != NO_REASON) {
            return refusal;
        }
        now.joinQueue(who, lift);
        return ENTRY_DONE;
    }

    private int skiByText(int guest, int piste) {
        Guest who = now.guestAt(guest);
        Piste which = now.pisteAt(piste);
        if (who == null || which == null) {
            return ENTRY_IMPOSSIBLE;
        }
        int refusal = now.skiRefusal(who, which);
        if (refusal != NO_REASON) {
            return refusal;
        }
        now.startPiste(who, which, piste);
        return ENTRY_DONE;
    }

    private static final class Lift {
        int lower;
        int upper;
        int zone;
        int interval;
        int capacity;
        int ride;
        int exposure;
        int clock;
        int riders;
        int cabins;

        void begin(int lowerStation, int upperStation, int itsZone, int itsInterval, int itsCapacity,
                int rideAndExposure) {
            lower = lowerStation;
            upper = upperStation;
            zone = itsZone;
            interval = itsInterval;
            capacity = itsCapacity;
            ride = rideAndExposure / 10;
            exposure = rideAndExposure % 10;
            clock = 0;
            riders = 0;
            cabins = 0;
        }

        void copyFrom(Lift other) {
            lower = other.lower;
            upper = other.upper;
            zone = other.zone;
            interval = other.interval;
            capacity = other.capacity;
            ride = other.ride;
            exposure = other.exposure;
            clock = other.clock;
            riders = other.riders;
            cabins = other.cabins;
        }

        /** How far the clock is from the departure of the cabin with this number, from 1, from now on. */
        int stepsToCabin(int cabin) {
            return 2 * interval * cabin - clock;
        }

        int restOfRide() {
            return 2 * ride;
        }
    }

    private static final class Piste {
        int from;
        int to;
        int difficulty;
        int length;
        int state;
        int wear;
        int rest;
        int begun;

        void begin(int fromStation, int toStation, int itsDifficulty, int itsLength) {
            from = fromStation;
            to = toStation;
            difficulty = itsDifficulty;
            length = itsLength;
            state = OPEN;
            wear = 0;
            rest = 0;
            begun = 0;
        }

        void copyFrom(Piste other) {
            from = other.from;
            to = other.to;
            difficulty = other.difficulty;
            length = other.length;
            state = other.state;
            wear = other.wear;
            rest = other.rest;
            begun = other.begun;
        }

        void becomeFresh() {
            state = OPEN;
            wear = 0;
            rest = 0;
        }

        boolean isTooDifficultFor(Guest guest) {
            return difficulty > guest.skill + 1;
        }

        int restFor(Guest guest) {
            return difficulty > guest.skill ? 2 * length : length;
        }
    }

    private static final class Guest {
        int skill;
        int zones;
        int first;
        int last;
        int state;
        /** The station, lift or piste, by the state. */
        int where;
        int rest;
        int place;
        int rides;
        int runs;
        int refusals;

        void begin(int station, int itsSkill, int itsZones, int firstDay, int lastDay) {
            skill = itsSkill;
            zones = itsZones;
            first = firstDay;
            last = lastDay;
            rides = 0;
            runs = 0;
            refusals = 0;
            become(AT_STATION, station, 0, 0);
        }

        void copyFrom(Guest other) {
            skill = other.skill;
            zones = other.zones;
            first = other.first;
            last = other.last;
            rides = other.rides;
            runs = other.runs;
            refusals = other.refusals;
            become(other.state, other.where, other.rest, other.place);
        }

        void standAt(int station) {
            become(AT_STATION, station, 0, 0);
        }

        void goAway() {
            become(AWAY, -1, 0, 0);
        }

        void become(int newState, int newWhere, int newRest, int newPlace) {
            state = newState;
            where = newWhere;
            rest = newRest;
            place = newPlace;
        }

        boolean is(int someState, int somewhere) {
            return state == someState && where == somewhere;
        }
    }

    /** All that a change can touch: what the history, read and save keep copies of. */
    private static final class Area {
        final Lift[] lifts;
        final Piste[] pistes;
        final Guest[] guests;
        int liftCount;
        int pisteCount;
        int guestCount;
        int wind;
        int tick;
        int day;

        Area() {
            lifts = new Lift[MOST_LIFTS];
            for (int i = 0; i < MOST_LIFTS; i++) {
                lifts[i] = new Lift();
            }
            pistes = new Piste[MOST_PISTES];
            for (int i = 0; i < MOST_PISTES; i++) {
                pistes[i] = new Piste();
            }
            guests = new Guest[MOST_GUESTS];
            for (int i = 0; i < MOST_GUESTS; i++) {
                guests[i] = new Guest();
            }
        }

        void becomeEmpty() {
            liftCount = 0;
            pisteCount = 0;
            guestCount = 0;
            wind = 0;
            tick = 0;
            day = 0;
        }

        void copyFrom(Area other) {
            for (int i = 0; i < other.liftCount; i++) {
                lifts[i].copyFrom(other.lifts[i]);
            }
            for (int i = 0; i < other.pisteCount; i++) {
                pistes[i].copyFrom(other.pistes[i]);
            }
            for (int i = 0; i < other.guestCount; i++) {
                guests[i].copyFrom(other.guests[i]);
            }
            liftCount = other.liftCount;
            pisteCount = other.pisteCount;
            guestCount = other.guestCount;
            wind = other.wind;
            tick = other.tick;
            day = other.day;
        }

        /** The lift with this number, or null if there is none. */
        Lift liftAt(int number) {
            return number >= 0 && number < liftCount ? lifts[number] : null;
        }

        Piste pisteAt(int number) {
            return number >= 0 && number < pisteCount ? pistes[number] : null;
        }

        Guest guestAt(int number) {
            return number >= 0 && number < guestCount ? guests[number] : null;
        }

        int speedOf(Lift lift) {
            int force = wind + lift.exposure;
            if (force >= 9) {
                return NO_SPEED;
            }
            return force >= 6 ? SLOW_SPEED : FULL_SPEED;
        }

        boolean isHeld(Lift lift) {
            return speedOf(lift) == NO_SPEED;
        }

        boolean isOpenedFor(Guest guest, Lift lift) {
            return (guest.zones >> lift.zone & 1) != 0 && guest.first <= day && day <= guest.last;
        }

        /** Whether the lift belongs to ways of the guest. */
        boolean isWayFor(Guest guest, Lift lift) {
            return isOpenedFor(guest, lift) && !isHeld(lift);
        }

        boolean isWayFor(Guest guest, Piste piste) {
            return piste.state == OPEN && !piste.isTooDifficultFor(guest);
        }

        int heldLifts() {
            int set = 0;
            for (int i = 0; i < liftCount; i++) {
                if (isHeld(lifts[i])) {
                    set |= 1 << i;
                }
            }
            return set;
        }

        int liftsOpenedFor(Guest guest) {
            int set = 0;
            for (int i = 0; i < liftCount; i++) {
                if (isOpenedFor(guest, lifts[i])) {
                    set |= 1 << i;
                }
            }
            return set;
        }

        int openPistes() {
            int sum = 0;
            for (int i = 0; i < pisteCount; i++) {
                if (pistes[i].state == OPEN) {
                    sum++;
                }
            }
            return sum;
        }

        int guestsIn(int state) {
            int sum = 0;
            for (int i = 0; i < guestCount; i++) {
                if (guests[i].state == state) {
                    sum++;
                }
            }
            return sum;
        }

        int guestsWith(int state, int where) {
            int sum = 0;
            for (int i = 0; i < guestCount; i++) {
                if (guests[i].is(state, where)) {
                    sum++;
                }
            }
            return sum;
        }

        int guestInQueue(int lift, int place) {
            for (int i = 0; i < guestCount; i++) {
                if (guests[i].is(IN_QUEUE, lift) && guests[i].place == place) {
                    return i;
                }
            }
            return NONE;
        }

        int welcome(int station, int skill, int zones, int first, int last) {
            if (guestCount >= MOST_GUESTS) {
                return NONE;
            }
            guests[guestCount].begin(station, skill, zones, first, last);
            guestCount++;
            return guestCount - 1;
        }

        int queueRefusal(Guest guest, Lift lift, int number) {
            if (guest.state != AT_STATION) {
                return NOT_AT_STATION;
            }
            if (guest.where != lift.lower) {
                return BEGINS_ELSEWHERE;
            }
            if (!isOpenedFor(guest, lift)) {
                return TICKET_DOES_NOT_OPEN;
            }
            if (isHeld(lift)) {
                return LIFT_HELD;
            }
            return guestsWith(IN_QUEUE, number) >= MOST_IN_QUEUE ? QUEUE_FULL : NO_REASON;
        }

        int skiRefusal(Guest guest, Piste piste) {
            if (guest.state != AT_STATION) {
                return NOT_AT_STATION;
            }
            if (guest.where != piste.from) {
                return BEGINS_ELSEWHERE;
            }
            if (piste.state != OPEN) {
                return PISTE_NOT_OPEN;
            }
            return piste.isTooDifficultFor(guest) ? TOO_DIFFICULT : NO_REASON;
        }

        int joinQueue(Guest guest, int lift) {
            guest.become(IN_QUEUE, lift, 0, guestsWith(IN_QUEUE, lift));
            return guest.place;
        }

        void leaveQueue(Guest guest) {
            Lift lift = liftAt(guest.where);
            if (lift == null) {
                return;
            }
            for (int i = 0; i < guestCount; i++) {
                if (guests[i].is(IN_QUEUE, guest.where) && guests[i].place > guest.place) {
                    guests[i].place--;
                }
            }
            guest.standAt(lift.lower);
        }

        int startPiste(Guest guest, Piste piste, int number) {
            guest.become(SKIING, number, piste.restFor(guest), 0);
            guest.runs++;
            piste.begun++;
            piste.wear += piste.difficulty;
            return guest.rest;
        }

        /** The order of the steps of a tick is the document's. */
        int passTicks(int ticks) {
            int arrived = 0;
            for (int i = 0; i < ticks; i++) {
                arrived += moveRiders();
                arrived += moveSkiers();
                turnLifts();
                groomPistes();
                closeWornPistes();
                tick++;
            }
            return arrived;
        }

        private int moveRiders() {
            int arrived = 0;
            for (int i = 0; i < guestCount; i++) {
                Guest guest = guests[i];
                Lift lift = guest.state == RIDING ? liftAt(guest.where) : null;
                if (lift != null) {
                    guest.rest -= speedOf(lift);
                    if (guest.rest <= 0) {
                        guest.standAt(lift.upper);
                        arrived++;
                    }
                }
            }
            return arrived;
        }

        private int moveSkiers() {
            int arrived = 0;
            for (int i = 0; i < guestCount; i++) {
                Guest guest = guests[i];
                Piste piste = guest.state == SKIING ? pisteAt(guest.where) : null;
                if (piste != null) {
                    guest.rest--;
                    if (guest.rest <= 0) {
                        guest.standAt(piste.to);
                        arrived++;
                    }
                }
            }
            return arrived;
        }

        /** One departure a tick is enough: the clock grows by no more than the shortest interval takes. */
        private void turnLifts() {
            for (int i = 0; i < liftCount; i++) {
                Lift lift = lifts[i];
                lift.clock += speedOf(lift);
                if (lift.stepsToCabin(1) <= 0) {
                    lift.clock -= 2 * lift.interval;
                    lift.cabins++;
                    boardCabin(lift, i);
                }
            }
        }

        private void boardCabin(Lift lift, int number) {
            for (int i = 0; i < guestCount; i++) {
                Guest guest = guests[i];
                if (!guest.is(IN_QUEUE, number)) {
                    continue;
                }
                if (guest.place < lift.capacity) {
                    guest.become(RIDING, number, lift.restOfRide(), 0);
                    guest.rides++;
                    lift.riders++;
                } else {
                    guest.place -= lift.capacity;
                }
            }
        }

        private void groomPistes() {
            for (int i = 0; i < pisteCount; i++) {
                Piste piste = pistes[i];
                if (piste.state == GROOMED) {
                    piste.rest--;
                    if (piste.rest <= 0) {
                        piste.becomeFresh();
                    }
                }
            }
        }

        private void closeWornPistes() {
            for (int i = 0; i < pisteCount; i++) {
                if (pistes[i].state == OPEN && pistes[i].wear >= WORN_OUT) {
                    pistes[i].state = CLOSED;
                }
            }
        }

        int closeDay() {
            int gone = guestCount - guestsIn(AWAY);
            for (int i = 0; i < guestCount; i++) {
                guests[i].goAway();
            }
            for (int i = 0; i < liftCount; i++) {
                lifts[i].clock = 0;
            }
            for (int i = 0; i < pisteCount; i++) {
                if (pistes[i].state == GROOMED) {
                    pistes[i].becomeFresh();
                }
            }
            tick = 0;
            day++;
            return gone;
        }

        /** Needs no ticks to be tried, as the wind and the queue before the guest only change by calls. */
        int ticksToStation(Guest guest) {
            switch (guest.state) {
                case AT_STATION: return 0;
                case SKIING: return guest.rest;
                case RIDING: return ticksOnLift(liftAt(guest.where), guest.rest);
                case IN_QUEUE: return ticksFromQueue(liftAt(guest.where), guest.place);
                default: return NONE;
            }
        }

        private int ticksOnLift(Lift lift, int rest) {
            if (lift == null || isHeld(lift)) {
                return NONE;
            }
            return ticksFor(rest, speedOf(lift));
        }

        private int ticksFromQueue(Lift lift, int place) {
            if (lift == null || isHeld(lift) || lift.capacity < 1) {
                return NONE;
            }
            int cabin = 1 + place / lift.capacity;
            return ticksFor(lift.stepsToCabin(cabin), speedOf(lift)) + ticksOnLift(lift, lift.restOfRide());
        }

        int accountsGap() {
            int rides = 0;
            int runs = 0;
            for (int i = 0; i < liftCount; i++) {
                rides += lifts[i].riders;
            }
            for (int i = 0; i < pisteCount; i++) {
                runs += pistes[i].begun;
            }
            for (int i = 0; i < guestCount; i++) {
                rides -= guests[i].rides;
                runs -= guests[i].runs;
            }
            return Math.abs(rides) + Math.abs(runs);
        }

        int liftWithMostRiders() {
            int best = NONE;
            int most = 0;
            for (int i = 0; i < liftCount; i++) {
                if (lifts[i].riders > most) {
                    most = lifts[i].riders;
                    best = i;
                }
            }
            return best;
        }
    }

    /** The ways of a guest; the durations are those to the goal that was measured last. */
    private static final class Ways {
        private final int[] durations;

        Ways() {
            durations = new int[STATIONS];
        }

        int durationFrom(int station) {
            return isStation(station) ? durations[station] : NO_WAY;
        }

        void measure(Area area, Guest guest, int goal) {
            for (int i = 0; i < STATIONS; i++) {
                durations[i] = i == goal ? 0 : NO_WAY;
            }
            // A least way comes to no station twice, so it has fewer parts than there are stations.
            for (int round = 1; round < STATIONS; round++) {
                if (!shorten(area, guest)) {
                    return;
                }
            }
        }

        private boolean shorten(Area area, Guest guest) {
            boolean isShorter = false;
            for (int i = 0; i < area.liftCount; i++) {
                Lift lift = area.lifts[i];
                if (area.isWayFor(guest, lift) && shortenFrom(lift.lower, lift.ride + durationFrom(lift.upper))) {
                    isShorter = true;
                }
            }
            for (int i = 0; i < area.pisteCount; i++) {
                Piste piste = area.pistes[i];
                if (area.isWayFor(guest, piste)
                        && shortenFrom(piste.from, piste.restFor(guest) + durationFrom(piste.to))) {
                    isShorter = true;
                }
            }
            return isShorter;
        }

        private boolean shortenFrom(int station, int duration) {
            if (!isStation(station) || duration >= durations[station]) {
                return false;
            }
            durations[station] = duration;
            return true;
        }

        /** The lift, or 100 plus the piste, that begins a least way to the measured goal. */
        int bestPartFrom(Area area, Guest guest, int station) {
            int least = durationFrom(station);
            if (least >= NO_WAY) {
                return NONE;
            }
            for (int i = 0; i < area.liftCount; i++) {
                Lift lift = area.lifts[i];
                if (lift.lower == station && area.isWayFor(guest, lift)
                        && lift.ride + durationFrom(lift.upper) == least) {
                    return i;
                }
            }
            for (int i = 0; i < area.pisteCount; i++) {
                Piste piste = area.pistes[i];
                if (piste.from == station && area.isWayFor(guest, piste)
                        && piste.restFor(guest) + durationFrom(piste.to) == least) {
                    return FIRST_PISTE_PART + i;
                }
            }
            return NONE;
        }

        int stationsWithoutWay() {
            int set = 0;
            for (int i = 0; i < STATIONS; i++) {
                if (durations[i] >= NO_WAY) {
                    set |= 1 << i;
                }
            }
            return set;
        }

        int stationsFrom(Area area, Guest guest, int station) {
            int set = 1 << station;
            for (int round = 1; round < STATIONS; round++) {
                set = spread(area, guest, set);
            }
            return set;
        }

        private int spread(Area area, Guest guest, int stations) {
            int set = stations;
            for (int i = 0; i < area.liftCount; i++) {
                Lift lift = area.lifts[i];
                if ((set >> lift.lower & 1) != 0 && area.isWayFor(guest, lift)) {
                    set |= 1 << lift.upper;
                }
            }
            for (int i = 0; i < area.pisteCount; i++) {
                Piste piste = area.pistes[i];
                if ((set >> piste.from & 1) != 0 && area.isWayFor(guest, piste)) {
                    set |= 1 << piste.to;
                }
            }
            return set;
        }
    }

    /** A ring of copies, so that the newest change can take the row of the oldest one. */
    private static final class History {
        private final Area[] rows;
        private int next;
        int size;

        History() {
            rows = new Area[MOST_REMEMBERED];
            for (int i = 0; i < MOST_REMEMBERED; i++) {
                rows[i] = new Area();
            }
        }

        void forgetAll() {
            size = 0;
        }

        void remember(Area area) {
            rows[Math.floorMod(next, MOST_REMEMBERED)].copyFrom(area);
            next = Math.floorMod(next + 1, MOST_REMEMBERED);
            size = Math.min(size + 1, MOST_REMEMBERED);
        }

        void takeBack(Area area) {
            if (size > 0) {
                next = Math.floorMod(next - 1, MOST_REMEMBERED);
                area.copyFrom(rows[next]);
                size--;
            }
        }
    }

    /** The buffer of the text, and the entry that was taken from it last. */
    private static final class Input {
        private final char[] text;
        int length;
        /** Where the next entry begins; if none could be taken, the place of the error. */
        int cursor;
        int entries;
        int kind;
        int number;
        int target;

        Input() {
            text = new char[MOST_CHARACTERS];
        }

        void becomeEmpty() {
            length = 0;
        }

        int put(char character) {
            if (length >= 0 && length < MOST_CHARACTERS) {
                text[length] = character;
                length++;
            }
            return length;
        }

        boolean isText() {
            cursor = 0;
            entries = 0;
            for (int i = 0; i < MOST_ENTRIES; i++) {
                if (!takeEntry()) {
                    return false;
                }
                entries++;
                if (cursor == length) {
                    return true;
                }
            }
            return false;
        }

        boolean takeEntry() {
            kind = isHere('g', 't') || isHere('w', 'w') ? text[cursor] : ' ';
            switch (kind) {
                case 'g':
                    cursor++;
                    return takeNumber('0', '7') && takeTarget('1', '3') && takeSign(';');
                case 'q':
                    cursor++;
                    return takeGuest() && takeSign('-') && takeTarget('0', '5') && takeSign(';');
                case 's':
                    cursor++;
                    return takeGuest() && takeSign('-') && takeTarget('0', '9') && takeSign(';');
                case 't':
                    cursor++;
                    return takeNumber('1', '9') && takeSign(';');
                case 'w':
                    cursor++;
                    return takeNumber('0', '9') && takeSign(';');
                default:
                    return false;
            }
        }

        private boolean isHere(char lowest, char highest) {
            return cursor >= 0 && cursor < length && cursor < MOST_CHARACTERS
                    && text[cursor] >= lowest && text[cursor] <= highest;
        }

        private boolean takeSign(char sign) {
            if (!isHere(sign, sign)) {
                return false;
            }
            cursor++;
            return true;
        }

        private int takeDigit(char lowest, char highest) {
            if (!isHere(lowest, highest)) {
                return NONE;
            }
            int digit = text[cursor] - '0';
            cursor++;
            return digit;
        }

        private boolean takeNumber(char lowest, char highest) {
            number = takeDigit(lowest, highest);
            return number != NONE;
        }

        private boolean takeTarget(char lowest, char highest) {
            target = takeDigit(lowest, highest);
            return target != NONE;
        }

        /** Only a 1 can have a second digit, as guests are 0 to 15 without leading zeros. */
        private boolean takeGuest() {
            if (!takeNumber('0', '9')) {
                return false;
            }
            int second = number == 1 ? takeDigit('0', '5') : NONE;
            if (second != NONE) {
                number = 10 + second;
            }
            return true;
        }
    }
}
