/** Sentences about lifts, queues and ticks, and about the promises 20, 21, 23 and 24. */
final class LiftBounds extends Bounds {
    private LiftBounds() {
    }

    static void ask() {
        clocks();
        departures();
        slowDepartures();
        cabins();
        rests();
        upperStation();
        queues();
        orderInATick();
        fromTheNextTickOn();
        queued();
        advance();
        lastTick();
        arrival();
        arrivalWithin60();
        arrivalComesTrue();
        nextCabin();
    }

    private static SlopeOperator lifted(int interval, int ride) {
        SlopeOperator x = new SlopeOperator();
        x.addLift(0, 1, 0, interval, 1, ride);
        return x;
    }

    private static void clocks() {
        sentence("Lifts", "A lift has a clock, at first 0.");
        SlopeOperator x = new SlopeOperator();
        x.advance(3);
        x.addLift(0, 1, 0, 6, 1, 90);
        due("of one that was added later", 0, () -> x.lift(0, 8));
        sentence("Lifts", "In a tick, the clock of a lift that runs increases by 2");
        x.advance(1);
        due("that runs", 2, () -> x.lift(0, 8));
        x.setWind(6);
        x.advance(1);
        due("that is slow", 3, () -> x.lift(0, 8));
        x.setWind(9);
        x.advance(50);
        due("that is held", 3, () -> x.lift(0, 8));
        x.setWind(8);
        x.advance(1);
        due("that is slow again", 4, () -> x.lift(0, 8));
        x.setWind(5);
        x.advance(1);
        due("that runs again", 6, () -> x.lift(0, 8));
    }

    private static void departures() {
        sentence("Lifts", "Whenever the clock is 2 times the interval or more after that, a cabin departs");
        for (int interval : range(1, 6)) {
            SlopeOperator x = lifted(interval, 90);
            if (interval > 1) {
                x.advance(interval - 1);
            }
            due("2 below, interval " + interval, 2 * interval - 2, () -> x.lift(0, 8));
            due("no cabin yet", 0, () -> x.liftAccount(0, 1));
            x.advance(1);
            due("at 2 times the interval " + interval, 0, () -> x.lift(0, 8));
            due("a cabin", 1, () -> x.liftAccount(0, 1));
            x.advance(7 * interval);
            due("a cabin each interval", 8, () -> x.liftAccount(0, 1));
            SlopeOperator odd = lifted(interval, 90);
            odd.setWind(6);
            odd.advance(2 * interval - 1);
            due("1 below, interval " + interval, 2 * interval - 1, () -> odd.lift(0, 8));
            due("no cabin 1 below", 0, () -> odd.liftAccount(0, 1));
            odd.setWind(0);
            odd.advance(1);
            due("1 above the interval " + interval, 1, () -> odd.lift(0, 8));
            due("a single cabin 1 above", 1, () -> odd.liftAccount(0, 1));
            odd.advance(interval);
            due("1 above once more", 1, () -> odd.lift(0, 8));
            due("the second cabin", 2, () -> odd.liftAccount(0, 1));
        }
    }

    private static void slowDepartures() {
        for (int interval : range(1, 6)) {
            SlopeOperator x = lifted(interval, 90);
            x.setWind(8);
            x.advance(2 * interval - 1);
            due("slow, 1 tick before", 0, () -> x.liftAccount(0, 1));
            x.advance(1);
            due("slow, at 2 times the interval " + interval, 1, () -> x.liftAccount(0, 1));
            due("slow, the clock then", 0, () -> x.lift(0, 8));
            x.setWind(9);
            x.advance(50);
            due("held, no cabin", 1, () -> x.liftAccount(0, 1));
        }
    }

    private static void cabins() {
        sentence("Lifts", "The cabin takes the first guests of the queue, as many as its capacity at most; there can be");
        for (int capacity : range(1, 8)) {
            for (int waiting : range(0, 10)) {
                SlopeOperator x = new SlopeOperator();
                x.addLift(0, 1, 0, 1, capacity, 90);
                addGuests(x, 11, 0, 1);
                for (int place : range(0, waiting - 1)) {
                    x.queue(10 - place, 0);
                }
                x.advance(1);
                String name = waiting + " wait for " + capacity;
                int riding = Math.min(waiting, capacity);
                due(name + ", riding", riding, () -> x.lift(0, 10));
                due(name + ", left", waiting - riding, () -> x.lift(0, 9));
                due(name + ", a cabin", 1, () -> x.liftAccount(0, 1));
                due(name + ", rode", riding, () -> x.liftAccount(0, 0));
                for (int place : range(0, waiting - 1)) {
                    due(name + ", the state of place " + place, place < capacity ? 2 : 1, () -> x.guest(10 - place, 0));
                    due(name + ", the rest or the new place of " + place, place < capacity ? 18 : place - capacity,
                            () -> x.guest(10 - place, 2));
                }
            }
        }
    }

    private static void rests() {
        sentence("Lifts", "A guest in a cabin has a rest, at first 2 times the ride of the lift");
        for (int ride : range(1, 9)) {
            SlopeOperator x = Areas.waiting(1, 1, 1, 1, 10 * ride);
            x.advance(1);
            due("at first, ride " + ride, 2 * ride, () -> x.guest(0, 2));
            due("riding", 2, () -> x.guest(0, 0));
            x.setWind(9);
            x.advance(4);
            due("held", 2 * ride, () -> x.guest(0, 2));
            x.setWind(8);
            x.advance(1);
            due("slow", 2 * ride - 1, () -> x.guest(0, 2));
            x.setWind(0);
            due("arrivals", 1, () -> x.advance(ride));
        }
        SlopeOperator y = Areas.waiting(1, 1, 1, 1, 90);
        y.advance(2);
        due("runs", 16, () -> y.guest(0, 2));
    }

    private static void upperStation() {
        sentence("Lifts", "When it is 0 or less, the guest is at the upper station.");
        int[][] tries = {{2, 0, 1}, {2, 6, 0}, {1, 0, 1}, {1, 6, 1}, {1, 9, 0}, {2, 9, 0}};
        for (int[] t : tries) {
            SlopeOperator x = Areas.waiting(1, 1, 1, 1, 10);
            x.advance(1);
            x.setWind(6);
            if (t[0] == 1) {
                x.advance(1);
            }
            due("the rest before", t[0], () -> x.guest(0, 2));
            x.setWind(t[1]);
            String name = "rest " + t[0] + " in wind " + t[1];
            due(name + ", arrivals", t[2], () -> x.advance(1));
            due(name + ", state", t[2] == 1 ? 0 : 2, () -> x.guest(0, 0));
            due(name + ", where", t[2], () -> x.guest(0, 1));
            due(name + ", rest", t[2] == 1 ? 0 : t[1] == 9 ? t[0] : t[0] - 1, () -> x.guest(0, 2));
        }
    }

    private static void queues() {
        sentence("Queues", "Each lift has a queue at its lower station, in which guests stand in the order in which they");
        SlopeOperator x = Areas.waiting(16, 0, 6, 3, 90);
        x.addLift(0, 2, 1, 6, 8, 90);
        int[] order = {9, 2, 15, 0, 7, 1, 14, 3, 8, 6};
        for (int place : range(0, 9)) {
            due("place " + place, place, () -> x.queue(order[place], 0));
        }
        due("the other lift has its own queue", 0, () -> x.queue(4, 1));
        refused("the full one is full for all", REFUSED, () -> x.queue(5, 0));
        due("the other one is not full", 1, () -> x.queue(5, 1));
        for (int place : range(0, 9)) {
            due("in the order in which they came", order[place], () -> x.queued(0, place));
        }
        x.leave(9);
        x.leave(14);
        x.leave(6);
        int[] left = {2, 15, 0, 7, 1, 3, 8};
        for (int place : range(0, 6)) {
            due("without those who left", left[place], () -> x.queued(0, place));
            due("the place of one", place, () -> x.guest(left[place], 2));
        }
        due("7 wait", 7, () -> x.lift(0, 9));
        due("those at the other lift do not mind", 4, () -> x.queued(1, 0));
        due("who comes back is the last", 7, () -> x.queue(9, 0));
        x.advance(6);
        due("without those who ride", 7, () -> x.queued(0, 0));
        due("the last one then", 9, () -> x.queued(0, 4));
        refused("nobody behind", NONE, () -> x.queued(0, 5));
    }

    private static void orderInATick() {
        sentence("Ticks", "In each tick, these things happen, in this order");
        SlopeOperator x = Areas.waiting(2, 2, 1, 1, 10);
        x.advance(1);
        due("the rests of riders come before the cabins", 2, () -> x.guest(0, 2));
        due("one comes up, and the next one departs", 1, () -> x.advance(1));
        due("the next one rides then", 2, () -> x.guest(1, 2));
        SlopeOperator y = Areas.worn(20);
        y.open(0, false);
        y.groom(0);
        y.advance(5);
        due("the rests of groomed pistes come before the wear", 0, () -> y.piste(0, 4));
        due("the wear is 0", 0, () -> y.piste(0, 5));
        SlopeOperator z = Areas.worn(20);
        z.advance(1);
        due("one closed for its wear is not groomed", 1, () -> z.piste(0, 4));
        due("it keeps its wear", 20, () -> z.piste(0, 5));
        SlopeOperator many = new SlopeOperator();
        many.addLift(0, 1, 0, 1, 1, 10);
        many.addPiste(0, 1, 1, 2);
        addGuests(many, 3, 0, 1);
        many.queue(2, 0);
        many.ski(0, 0);
        many.ski(1, 0);
        many.advance(1);
        due("riders and skiers come in one tick", 3, () -> many.advance(1));
    }

    private static void fromTheNextTickOn() {
        sentence("Ticks", "A guest whose rest was made in a tick or by a call before it is looked at from the next tick");
        SlopeOperator x = Areas.waiting(1, 1, 1, 1, 10);
        due("made in the tick", 0, () -> x.advance(1));
        due("looked at in the next one", 1, () -> x.advance(1));
        SlopeOperator y = new SlopeOperator();
        y.addPiste(0, 1, 1, 1);
        addGuests(y, 1, 0, 1);
        due("made by a call", 1, () -> y.ski(0, 0));
        due("looked at in the next tick", 1, () -> y.advance(1));
        due("there", 1, () -> y.guest(0, 1));
        SlopeOperator z = new SlopeOperator();
        z.addPiste(0, 1, 1, 1);
        put(z, "g01;s0-0;t1;");
        due("by a text too", 3, z::read);
        due("there too", 0, () -> z.guest(0, 0));
    }

    private static void queued() {
        sentence("20", "Returns a guest in the queue of a lift.", "- `place`: the place, from 0", "Returns the guest.");
        SlopeOperator x = Areas.waiting(16, 10, 6, 8, 90);
        x.addLift(0, 1, 0, 6, 8, 90);
        for (int place : range(0, 9)) {
            due("place " + place, place, () -> x.queued(0, place));
        }
        x.queue(15, 1);
        due("the greatest number", 15, () -> x.queued(1, 0));
        sentence("20", "Throws `IndexOutOfBoundsException` if there is no such lift");
        for (int lift : new int[] {-1, 2, LEAST, GREATEST}) {
            refused("lift " + lift, INDEX, () -> x.queued(lift, 0));
        }
        sentence("20", "Throws `NoSuchElementException` if there is no such place");
        for (int place : new int[] {-1, 10, LEAST, GREATEST}) {
            refused("place " + place, NONE, () -> x.queued(0, place));
        }
        refused("place 1 of 1", NONE, () -> x.queued(1, 1));
        x.leave(15);
        refused("place 0 of none", NONE, () -> x.queued(1, 0));
        x.advance(6);
        due("place 1 of 2", 9, () -> x.queued(0, 1));
        refused("place 2 of 2", NONE, () -> x.queued(0, 2));
    }

    private static void advance() {
        sentence("21", "Lets ticks pass.", "- `ticks`: the number of ticks, 1 to 50",
                "Throws `IllegalArgumentException` if ticks is out of range");
        SlopeOperator x = new SlopeOperator();
        for (int ticks : new int[] {0, -1, 51, LEAST, GREATEST}) {
            refused("ticks " + ticks, ARGUMENT, () -> x.advance(ticks));
            due("no tick passes", 0, () -> x.count(4));
        }
        due("1 tick", 0, () -> x.advance(1));
        due("1", 1, () -> x.count(4));
        due("50 ticks", 0, () -> x.advance(50));
        due("51", 51, () -> x.count(4));
        sentence("21", "Returns the number of guests who come to a station in them, each time counted.");
        SlopeOperator y = Areas.waiting(16, 8, 1, 4, 30);
        y.addPiste(0, 1, 1, 3);
        for (int guest : range(8, 15)) {
            y.ski(guest, 0);
        }
        int[] come = {0, 0, 8, 4, 4, 0};
        for (int number : come) {
            due("in a tick", number, () -> y.advance(1));
        }
        SlopeOperator z = Areas.waiting(16, 10, 1, 8, 90);
        z.advance(1);
        for (int guest : range(10, 15)) {
            z.queue(guest, 0);
        }
        due("all 16 in one call", 16, () -> z.advance(11));
        due("nobody twice", 0, () -> z.advance(50));
        SlopeOperator again = new SlopeOperator();
        again.addPiste(0, 1, 1, 1);
        again.addPiste(1, 0, 1, 1);
        addGuests(again, 1, 0, 1);
        for (int i : range(0, 3)) {
            again.ski(0, i % 2);
            due("each time", 1, () -> again.advance(5));
        }
    }

    private static void lastTick() {
        sentence("21", "Throws `IllegalStateException` if the tick number would be greater than 1000");
        SlopeOperator x = new SlopeOperator();
        advanceBy(x, 951);
        refused("951 and 50", STATE, () -> x.advance(50));
        due("no tick passes", 951, () -> x.count(4));
        due("951 and 49", 0, () -> x.advance(49));
        due("1000", 1000, () -> x.count(4));
        refused("1000 and 1", STATE, () -> x.advance(1));
        refused("1000 and 50", STATE, () -> x.advance(50));
        refused("1000 and 1 by a text", STATE, () -> readText(x, "t1;"));
        due("still 1000", 1000, () -> x.count(4));
        SlopeOperator y = new SlopeOperator();
        advanceBy(y, 950);
        due("950 and 50", 0, () -> y.advance(50));
        due("1000 again", 1000, () -> y.count(4));
        y.endDay();
        due("a new day has its own 1000", 0, () -> y.advance(1));
        SlopeOperator z = new SlopeOperator();
        advanceBy(z, 999);
        refused("999 and 2", STATE, () -> z.advance(2));
        refused("999 and 2 by a text", STATE, () -> readText(z, "t2;"));
        due("999 and 1 by a text", 1, () -> readText(z, "t1;"));
    }

    private static void arrival() {
        sentence("23", "Returns after how many ticks a guest will be at a station, if no call changes anything.",
                "Returns the number of ticks, 0 for one who is at a station.");
        SlopeOperator x = Areas.waiting(4, 2, 2, 1, 10);
        x.addPiste(0, 1, 2, 9);
        due("at a station", 0, () -> x.arrival(3));
        due("skiing", 18, () -> {
            x.ski(3, 0);
            return x.arrival(3);
        });
        due("first of the queue", 3, () -> x.arrival(0));
        due("second of the queue", 5, () -> x.arrival(1));
        x.advance(2);
        due("riding", 1, () -> x.arrival(0));
        x.advance(1);
        due("up", 0, () -> x.arrival(0));
        x.advance(14);
        due("the last tick of a piste", 1, () -> x.arrival(3));
        sentence("23", "Throws `IndexOutOfBoundsException` if there is no such guest");
        for (int guest : new int[] {-1, 4, LEAST, GREATEST}) {
            refused("guest " + guest, INDEX, () -> x.arrival(guest));
        }
        refused("guest 16 of 16", INDEX, () -> Areas.full().arrival(16));
        due("guest 15 of 16", 9, () -> Areas.full().arrival(15));
    }

    private static void arrivalWithin60() {
        sentence("23", "Throws `NoSuchElementException` if the guest is away, or this will not be within 60 ticks");
        SlopeOperator x = Areas.waiting(10, 10, 6, 1, 60);
        due("60", 60, () -> x.arrival(8));
        refused("66", NONE, () -> x.arrival(9));
        SlopeOperator y = Areas.waiting(10, 10, 6, 1, 70);
        due("55", 55, () -> y.arrival(7));
        refused("61", NONE, () -> y.arrival(8));
        y.advance(1);
        due("60, a tick later", 60, () -> y.arrival(8));
        SlopeOperator slow = Areas.waiting(4, 4, 6, 1, 73);
        slow.setWind(3);
        refused("slow, 62", NONE, () -> slow.arrival(3));
        slow.advance(1);
        refused("slow, 61", NONE, () -> slow.arrival(3));
        slow.advance(1);
        due("slow, 60", 60, () -> slow.arrival(3));
        SlopeOperator odd = Areas.waiting(10, 10, 6, 1, 60);
        odd.setWind(6);
        odd.advance(1);
        odd.setWind(0);
        due("60 with an odd clock", 60, () -> odd.arrival(8));
        SlopeOperator held = Areas.waiting(3, 2, 1, 1, 93);
        held.advance(1);
        held.setWind(5);
        due("slow just below held", 18, () -> held.arrival(0));
        held.setWind(6);
        refused("held, riding", NONE, () -> held.arrival(0));
        refused("held, in the queue", NONE, () -> held.arrival(1));
        due("held, at a station", 0, () -> held.arrival(2));
        held.leave(2);
        refused("away", NONE, () -> held.arrival(2));
        held.endDay();
        refused("away by the end of the day", NONE, () -> held.arrival(0));
    }

    /** The guest is not at a station a tick before, and is there then. */
    private static void arrivalComesTrue() {
        sentence("23", "Returns after how many ticks a guest will be at a station, if no call changes anything.");
        for (int interval : range(1, 6)) {
            for (int wind : new int[] {0, 6}) {
                for (int passed : range(0, 3)) {
                    for (int guest : new int[] {0, 1, 2, 3}) {
                        comesTrue(interval, wind, passed, guest);
                    }
                }
            }
        }
    }

    private static void comesTrue(int interval, int wind, int passed, int guest) {
        SlopeOperator x = Areas.waiting(4, 4, interval, 2, 10 * interval + 1);
        x.setWind(5);
        if (passed > 0) {
            x.advance(passed);
        }
        x.setWind(wind);
        int ticks = x.arrival(guest);
        String name = "interval " + interval + ", wind " + wind + ", " + passed + " passed, guest " + guest;
        if (ticks > 0) {
            advanceBy(x, ticks - 1);
            due(name + ", not before", 1, () -> x.arrival(guest));
            x.advance(1);
        }
        due(name + ", there", 0, () -> x.guest(guest, 0));
    }

    private static void nextCabin() {
        sentence("24", "Returns the number of ticks after which the next cabin of a lift departs",
                "Returns the number of ticks, at least 1.");
        for (int interval : range(1, 6)) {
            for (int clock : range(0, 2 * interval - 1)) {
                for (int wind : new int[] {0, 6, 8}) {
                    SlopeOperator x = lifted(interval, 90);
                    x.setWind(6);
                    advanceBy(x, clock);
                    x.setWind(wind);
                    int steps = 2 * interval - clock;
                    int ticks = wind == 0 ? (steps + 1) / 2 : steps;
                    String name = "interval " + interval + ", clock " + clock + ", wind " + wind;
                    due(name, ticks, () -> x.nextCabin(0));
                    advanceBy(x, ticks - 1);
                    due(name + ", not before", 0, () -> x.liftAccount(0, 1));
                    due(name + ", 1 is the least", 1, () -> x.nextCabin(0));
                    x.advance(1);
                    due(name + ", then", 1, () -> x.liftAccount(0, 1));
                }
            }
        }
        SlopeOperator x = lifted(6, 93);
        sentence("24", "Throws `IndexOutOfBoundsException` if there is no such lift");
        for (int lift : new int[] {-1, 1, LEAST, GREATEST}) {
            refused("lift " + lift, INDEX, () -> x.nextCabin(lift));
        }
        refused("lift 6 of 6", INDEX, () -> Areas.full().nextCabin(6));
        due("lift 5 of 6", 6, () -> Areas.full().nextCabin(5));
        sentence("24", "Throws `NoSuchElementException` if the lift is held");
        x.setWind(5);
        due("force 8", 12, () -> x.nextCabin(0));
        x.setWind(6);
        refused("force 9", NONE, () -> x.nextCabin(0));
        x.setWind(9);
        refused("force 12", NONE, () -> x.nextCabin(0));
    }
}
