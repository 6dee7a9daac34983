/** Sentences about guests, refusals and days, and about the promises 11 to 13, 15, 16, 18, 19 and 22. */
final class GuestBounds extends Bounds {
    private GuestBounds() {
    }

    static void ask() {
        sixteenGuests();
        skillsAndStates();
        tickets();
        ticketsByDays();
        lastBeforeFirst();
        days();
        pistesAtTheEndOfADay();
        windAndWearStay();
        reasonsOfQueue();
        reasonsOfSki();
        otherKind();
        addGuest();
        guest();
        queue();
        leave();
        whyNotQueue();
        reason();
        opened();
        endDay();
    }

    private static void sixteenGuests() {
        sentence("Guests", "There are at most 16 guests, numbered from 0 in the order in which they came.");
        SlopeOperator x = new SlopeOperator();
        for (int guest : range(0, 15)) {
            due("guest " + guest, guest, () -> x.addGuest(guest % 8, 1, guest, 0, 0));
        }
        refused("guest 16", STATE, () -> x.addGuest(0, 1, 0, 0, 0));
        refused("guest 16 by a text", STATE, () -> readText(x, "g01;"));
        for (int guest : range(0, 15)) {
            due("in the order in which they came", guest, () -> x.guest(guest, 4));
        }
        x.leave(3);
        refused("one who is away is still a guest", STATE, () -> x.addGuest(0, 1, 0, 0, 0));
        x.undo();
        x.undo();
        due("guest 15 by a text", 1, () -> readText(x, "g01;"));
        due("16 guests", 16, () -> x.count(2));
        x.undo();
        due("15 guests", 15, () -> x.count(2));
        due("guest 15 again", 15, () -> x.addGuest(0, 1, 0, 0, 0));
    }

    private static void skillsAndStates() {
        sentence("Guests", "A guest has a skill from 1 to 3, a ticket, and a state");
        for (int skill : new int[] {1, 2, 3}) {
            SlopeOperator x = new SlopeOperator();
            due("skill " + skill, 0, () -> x.addGuest(0, skill, 0, 0, 0));
            due("skill " + skill + " is told", skill, () -> x.guest(0, 3));
            due("at a station", 0, () -> x.guest(0, 0));
        }
        for (int skill : new int[] {0, 4, -1, LEAST, GREATEST}) {
            refused("skill " + skill, ARGUMENT, () -> new SlopeOperator().addGuest(0, skill, 0, 0, 0));
        }
        refused("skill 0 by a text", ARGUMENT, () -> readText(new SlopeOperator(), "g00;"));
        refused("skill 4 by a text", ARGUMENT, () -> readText(new SlopeOperator(), "g04;"));
        SlopeOperator x = Areas.waiting(5, 2, 1, 1, 90);
        x.addPiste(0, 1, 1, 9);
        x.advance(1);
        x.ski(2, 0);
        x.leave(3);
        int[] states = {2, 1, 3, 4, 0};
        for (int guest : range(0, 4)) {
            due("the states", states[guest], () -> x.guest(guest, 0));
            due("counted", 1, () -> x.count(6 + states[guest]));
        }
    }

    private static void tickets() {
        sentence("Guests", "A ticket has a set of zones, a first day and a last day.");
        for (int zones : range(-2, 17)) {
            SlopeOperator x = new SlopeOperator();
            boolean isRight = zones >= 0 && zones <= 15;
            due("zones " + zones, isRight ? "0" : "IllegalArgumentException",
                    () -> Told.answer(() -> x.addGuest(0, 1, zones, 0, 0)));
            due("zones " + zones + ", told", isRight ? "" + zones : "IndexOutOfBoundsException",
                    () -> Told.answer(() -> x.guest(0, 4)));
        }
        for (int day : new int[] {LEAST, -1, 0, 1, 999, 1000, 1001, GREATEST}) {
            boolean isRight = day >= 0 && day <= 1000;
            SlopeOperator x = new SlopeOperator();
            due("first " + day, isRight ? "0" : "IllegalArgumentException",
                    () -> Told.answer(() -> x.addGuest(0, 1, 0, day, 3)));
            due("first " + day + ", told", isRight ? "" + day : "IndexOutOfBoundsException",
                    () -> Told.answer(() -> x.guest(0, 5)));
            SlopeOperator y = new SlopeOperator();
            due("last " + day, isRight ? "0" : "IllegalArgumentException",
                    () -> Told.answer(() -> y.addGuest(0, 1, 0, 3, day)));
            due("last " + day + ", told", isRight ? "" + day : "IndexOutOfBoundsException",
                    () -> Told.answer(() -> y.guest(0, 6)));
        }
        refused("zones 32", ARGUMENT, () -> new SlopeOperator().addGuest(0, 1, 32, 0, 0));
        refused("zones of all bits", ARGUMENT, () -> new SlopeOperator().addGuest(0, 1, LEAST, 0, 0));
        refused("great zones", ARGUMENT, () -> new SlopeOperator().addGuest(0, 1, GREATEST, 0, 0));
    }

    private static void ticketsByDays() {
        sentence("Guests", "It opens a lift if the zone of the lift is in the set, and the present day is from the first");
        for (int zone : range(0, 3)) {
            for (int zones : range(0, 15)) {
                SlopeOperator x = new SlopeOperator();
                x.addLift(0, 1, zone, 1, 1, 10);
                x.addGuest(0, 1, zones, 0, 0);
                boolean isIn = (zones & 1 << zone) != 0;
                due("zone " + zone + " of " + zones, isIn ? 1 : 0, () -> x.opened(0));
                due("zone " + zone + " of " + zones + ", why not", isIn ? 0 : 3, () -> x.whyNotQueue(0, 0));
            }
        }
        int[][] tickets = {{0, 0}, {2, 2}, {2, 4}, {0, 3}, {3, 1000}, {5, 5}, {6, 9}};
        for (int[] ticket : tickets) {
            for (int day : range(0, 6)) {
                SlopeOperator x = new SlopeOperator();
                x.addLift(0, 1, 3, 1, 1, 10);
                for (int i = 0; i < day; i++) {
                    x.endDay();
                }
                x.addGuest(0, 1, 8, ticket[0], ticket[1]);
                boolean isOpen = day >= ticket[0] && day <= ticket[1];
                String name = "day " + day + " of " + ticket[0] + " to " + ticket[1];
                due(name, isOpen ? 1 : 0, () -> x.opened(0));
                due(name + ", why not", isOpen ? 0 : 3, () -> x.whyNotQueue(0, 0));
                due(name + ", ways", isOpen ? 3 : 1, () -> x.reachable(0, 0));
            }
        }
    }

    private static void lastBeforeFirst() {
        sentence("More precisely", "A ticket whose first day is behind its last one opens nothing.");
        SlopeOperator x = new SlopeOperator();
        x.addLift(0, 1, 0, 1, 1, 10);
        x.addGuest(0, 1, 15, 2, 1);
        x.addGuest(0, 1, 15, 1000, 0);
        x.addGuest(0, 1, 15, 2, 2);
        for (int day : range(0, 3)) {
            due("2 to 1 on day " + day, 0, () -> x.opened(0));
            due("1000 to 0 on day " + day, 0, () -> x.opened(1));
            due("2 to 2 on day " + day, day == 2 ? 1 : 0, () -> x.opened(2));
            x.endDay();
        }
    }

    private static void days() {
        sentence("Days", "At the end of a day, all guests who are not away are away, queues are empty");
        SlopeOperator x = Areas.busy();
        int notAway = 8 - x.count(10);
        due("the guests who are away by that", notAway, x::endDay);
        for (int guest : range(0, 7)) {
            due("guest " + guest + " is away", 4, () -> x.guest(guest, 0));
            due("guest " + guest + " is nowhere", -1, () -> x.guest(guest, 1));
            due("guest " + guest + " has no rest", 0, () -> x.guest(guest, 2));
        }
        for (int lift : range(0, 2)) {
            due("the queue of " + lift, 0, () -> x.lift(lift, 9));
            refused("the first of the queue of " + lift, NONE, () -> x.queued(lift, 0));
            due("the clock of " + lift, 0, () -> x.lift(lift, 8));
            due("the riders of " + lift, 0, () -> x.lift(lift, 10));
        }
        for (int clock : range(0, 11)) {
            SlopeOperator y = Areas.waiting(1, 0, 6, 1, 90);
            y.setWind(6);
            advanceBy(y, clock);
            due("the clock before", clock, () -> y.lift(0, 8));
            y.endDay();
            due("the clock then", 0, () -> y.lift(0, 8));
            due("no cabin by that", 0, () -> y.liftAccount(0, 1));
        }
        SlopeOperator full = Areas.waiting(16, 10, 1, 1, 90);
        due("a full queue and 6 others", 16, full::endDay);
        due("the queue", 0, () -> full.lift(0, 9));
        full.advance(1);
        due("nobody of it rides on the next day", 0, () -> full.liftAccount(0, 0));
    }

    private static void pistesAtTheEndOfADay() {
        sentence("Days", "Pistes that are groomed are open then, with the wear 0; others stay as they are.");
        for (int wear : new int[] {0, 5, 19, 20, 32}) {
            SlopeOperator groomed = Areas.worn(wear);
            groomed.open(0, false);
            groomed.groom(0);
            groomed.endDay();
            due("groomed, wear " + wear, "0 0 0", () -> stateWearRest(groomed));
            groomed.advance(1);
            due("groomed, wear " + wear + ", a tick later", "0 0 0", () -> stateWearRest(groomed));
            SlopeOperator closed = Areas.worn(wear);
            closed.open(0, false);
            closed.endDay();
            due("closed, wear " + wear, "1 " + wear + " 0", () -> stateWearRest(closed));
            SlopeOperator open = Areas.worn(wear);
            open.endDay();
            due("open, wear " + wear, "0 " + wear + " 0", () -> stateWearRest(open));
        }
    }

    private static String stateWearRest(SlopeOperator x) {
        return x.piste(0, 4) + " " + x.piste(0, 5) + " " + x.piste(0, 6);
    }

    private static void windAndWearStay() {
        sentence("More precisely", "At the end of a day, the wind and the wear stay.");
        for (int wind : range(0, 9)) {
            SlopeOperator x = Areas.worn(wind + 12);
            x.setWind(wind);
            x.endDay();
            due("the wind " + wind, wind, () -> x.count(3));
            due("the wear", wind + 12, () -> x.piste(0, 5));
        }
    }

    /** Of all sets of what is against it, the lowest number is the reason. */
    private static void reasonsOfQueue() {
        sentence("Refusals", "A call of queue or ski that is refused throws an UnsupportedOperationException");
        for (int set : range(0, 31)) {
            SlopeOperator x = againstQueue(set);
            int reason = set == 0 ? 0 : 1 + Integer.numberOfTrailingZeros(set);
            due("why not, set " + set, reason, () -> x.whyNotQueue(15, 0));
            due("queue, set " + set, set == 0 ? "9" : "UnsupportedOperationException",
                    () -> Told.answer(() -> x.queue(15, 0)));
            due("the reason, set " + set, set == 0 ? "NoSuchElementException" : "" + reason, () -> Told.answer(x::reason));
            due("the refusals, set " + set, set == 0 ? 0 : 1, () -> x.guestAccount(15, 2));
        }
        SlopeOperator states = Areas.waiting(3, 2, 1, 1, 90);
        states.addPiste(0, 1, 1, 9);
        states.advance(1);
        states.ski(2, 0);
        for (int guest : range(0, 2)) {
            due("the state", new int[] {2, 1, 3}[guest], () -> states.guest(guest, 0));
            due("riding, in a queue, skiing", 1, () -> states.whyNotQueue(guest, 0));
            refused("riding, in a queue, skiing", REFUSED, () -> states.queue(guest, 0));
        }
    }

    private static SlopeOperator againstQueue(int set) {
        SlopeOperator x = new SlopeOperator();
        x.addLift(0, 1, 2, 6, 8, 90);
        addGuests(x, 15, 0, 1);
        x.addGuest((set & 2) > 0 ? 1 : 0, 1, (set & 4) > 0 ? 11 : 4, 0, 0);
        for (int guest : range(0, (set & 16) > 0 ? 9 : 8)) {
            x.queue(guest, 0);
        }
        x.setWind((set & 8) > 0 ? 9 : 8);
        if ((set & 1) > 0) {
            x.leave(15);
        }
        return x;
    }

    private static void reasonsOfSki() {
        int[] reasons = {1, 2, 6, 7};
        for (int set : range(0, 15)) {
            for (boolean isGroomed : new boolean[] {false, true}) {
                SlopeOperator x = againstSki(set, isGroomed);
                int reason = set == 0 ? 0 : reasons[Integer.numberOfTrailingZeros(set)];
                due("why not, set " + set, reason, () -> x.whyNotSki(0, 0));
                due("ski, set " + set, set == 0 ? "8" : "UnsupportedOperationException",
                        () -> Told.answer(() -> x.ski(0, 0)));
                due("the reason of ski, set " + set, set == 0 ? "NoSuchElementException" : "" + reason,
                        () -> Told.answer(x::reason));
                due("the refusals of ski, set " + set, set == 0 ? 0 : 1, () -> x.guestAccount(0, 2));
            }
        }
        for (int skill : range(1, 3)) {
            for (int difficulty : range(1, 3)) {
                SlopeOperator x = new SlopeOperator();
                x.addPiste(0, 1, difficulty, 1);
                x.addGuest(0, skill, 0, 0, 0);
                due("skill " + skill + ", difficulty " + difficulty, difficulty > skill + 1 ? 7 : 0,
                        () -> x.whyNotSki(0, 0));
            }
        }
    }

    private static SlopeOperator againstSki(int set, boolean isGroomed) {
        SlopeOperator x = new SlopeOperator();
        x.addPiste(0, 1, 3, 4);
        x.addGuest((set & 2) > 0 ? 1 : 0, (set & 8) > 0 ? 1 : 2, 0, 0, 0);
        if ((set & 4) > 0) {
            x.open(0, false);
            if (isGroomed) {
                x.groom(0);
            }
        }
        if ((set & 1) > 0) {
            x.leave(0);
        }
        return x;
    }

    private static void otherKind() {
        sentence("Refusals", "Those that are about the other kind do not apply.");
        SlopeOperator x = againstQueue(4 + 8 + 16);
        x.addPiste(0, 1, 2, 2);
        due("ski without a ticket, while the lift is held and its queue is full", 4, () -> x.ski(15, 0));
        SlopeOperator y = againstSki(4 + 8, false);
        y.addLift(0, 1, 0, 1, 1, 10);
        y.addGuest(0, 1, 1, 0, 0);
        due("queue while the piste is closed and too difficult", 0, () -> y.queue(1, 0));
    }

    private static void addGuest() {
        sentence("11", "Adds a guest at a station.", "Returns the number of the guest.");
        SlopeOperator x = new SlopeOperator();
        due("the first", 0, () -> x.addGuest(7, 3, 15, 1000, 999));
        due("all numbers", "0 0 1 0 0 0 1 0 0 0 0 0 \nguest 0: 0 7 0 3 15 1000 999 0 0 0 ", () -> Told.numbers(x));
        sentence("11", "- `zones`: the set of zones, 0 to 15", "- `first`: the first day of the ticket, 0 to 1000",
                "- `last`: the last day, 0 to 1000", "Throws `IllegalArgumentException` if another number is out of range");
        int[] right = {0, 2, 6, 5, 5};
        int[][] bounds = {{}, {1, 3}, {0, 15}, {0, 1000}, {0, 1000}};
        for (int what : range(1, 4)) {
            for (int number : new int[] {bounds[what][0] - 1, bounds[what][1] + 1}) {
                int[] a = right.clone();
                a[what] = number;
                refused("number " + what + ": " + number, ARGUMENT, () -> x.addGuest(a[0], a[1], a[2], a[3], a[4]));
            }
            for (int number : bounds[what]) {
                int[] a = right.clone();
                a[what] = number;
                int next = x.count(2);
                due("number " + what + ": " + number, next, () -> x.addGuest(a[0], a[1], a[2], a[3], a[4]));
                due("number " + what + " is told", number, () -> x.guest(next, 2 + what));
            }
        }
        sentence("11", "Throws `IndexOutOfBoundsException` if there is no such station");
        for (int station : new int[] {-1, 8, LEAST, GREATEST}) {
            refused("station " + station, INDEX, () -> x.addGuest(station, 1, 0, 0, 0));
        }
        sentence("11", "Throws `IllegalStateException` if there are 16 guests");
        for (int guest : range(9, 15)) {
            due("guest " + guest, guest, () -> x.addGuest(0, 1, 0, 0, 0));
        }
        refused("guest 16", STATE, () -> x.addGuest(0, 1, 0, 0, 0));
        due("still 16", 16, () -> x.count(2));
    }

    private static void guest() {
        sentence("12", "Returns a number of a guest.", "- `what`: 0 for the state, 1 for the station", "Returns the number.");
        SlopeOperator y = Areas.waiting(16, 10, 6, 1, 90);
        for (int place : range(0, 9)) {
            due("the place", place, () -> y.guest(place, 2));
            due("the lift in whose queue", 0, () -> y.guest(place, 1));
        }
        for (int what : range(3, 6)) {
            due("the ticket of guest 15", new int[] {1, 15, 0, 1000}[what - 3], () -> y.guest(15, what));
        }
        due("the station at which", 0, () -> y.guest(15, 1));
        due("no rest at a station", 0, () -> y.guest(15, 2));
        y.addPiste(0, 1, 2, 9);
        y.addPiste(0, 7, 1, 1);
        y.ski(15, 0);
        due("the greatest rest of a piste", 18, () -> y.guest(15, 2));
        due("the piste on which", 0, () -> y.guest(15, 1));
        y.ski(14, 1);
        due("the other piste", 1, () -> y.guest(14, 1));
        due("the least rest", 1, () -> y.guest(14, 2));
        y.advance(6);
        due("the end of the piste", 7, () -> y.guest(14, 1));
        due("the greatest rest of a lift", 18, () -> y.guest(0, 2));
        due("the lift on which", 0, () -> y.guest(0, 1));
        y.leave(9);
        due("who leaves the queue has no place", 0, () -> y.guest(9, 2));
        y.leave(9);
        due("away", -1, () -> y.guest(9, 1));
        due("no rest away", 0, () -> y.guest(9, 2));
        due("the skill of one who is away", 1, () -> y.guest(9, 3));
        due("the last day of one who is away", 1000, () -> y.guest(9, 6));
        sentence("12", "Throws `IndexOutOfBoundsException` if there is no such guest");
        for (int guest : new int[] {-1, 16, LEAST, GREATEST}) {
            refused("guest " + guest, INDEX, () -> y.guest(guest, 0));
        }
        refused("guest 0 of none", INDEX, () -> new SlopeOperator().guest(0, 0));
        sentence("12", "Throws `IllegalArgumentException` if what is not 0 to 6");
        for (int what : new int[] {-1, 7, LEAST, GREATEST}) {
            refused("what " + what, ARGUMENT, () -> y.guest(0, what));
        }
    }

    private static void queue() {
        sentence("13", "Lets a guest stand in the queue of a lift.", "Returns the place in the queue, from 0.");
        SlopeOperator x = Areas.waiting(16, 0, 6, 8, 93);
        for (int place : range(0, 9)) {
            due("place " + place, place, () -> x.queue(15 - place, 0));
        }
        sentence("13", "Throws `UnsupportedOperationException` if it is refused; the reason is then kept, and the");
        refused("10 are there", REFUSED, () -> x.queue(0, 0));
        due("the reason", 5, x::reason);
        refused("10 are still there", REFUSED, () -> x.queue(0, 0));
        due("two refusals", 2, () -> x.guestAccount(0, 2));
        due("none of others", 0, () -> x.guestAccount(1, 2));
        due("still 10", 10, () -> x.lift(0, 9));
        x.leave(15);
        due("the last place again", 9, () -> x.queue(0, 0));
        x.setWind(6);
        refused("held and full", REFUSED, () -> x.queue(1, 0));
        due("held comes first", 4, x::reason);
        sentence("13", "Throws `IndexOutOfBoundsException` if there is no such guest or lift");
        for (int number : new int[] {-1, LEAST, GREATEST}) {
            refused("guest " + number, INDEX, () -> x.queue(number, 0));
            refused("lift " + number, INDEX, () -> x.queue(0, number));
        }
        refused("guest 16 of 16", INDEX, () -> x.queue(16, 0));
        refused("lift 1 of 1", INDEX, () -> x.queue(0, 1));
        refused("lift 6 of 6", INDEX, () -> Areas.full().queue(0, 6));
        due("they are no refusals", 2, () -> x.guestAccount(0, 2));
        due("they keep no reason", 4, x::reason);
    }

    private static void leave() {
        sentence("15", "Lets a guest leave: from a queue to its station, and from a station away.",
                "Returns the new state.");
        for (int who : range(0, 9)) {
            SlopeOperator x = Areas.waiting(16, 10, 6, 8, 90);
            due("from place " + who, 0, () -> x.leave(who));
            due("to its station", 0, () -> x.guest(who, 1));
            due("9 are left", 9, () -> x.lift(0, 9));
            for (int place : range(0, 8)) {
                due("the others move up", place < who ? place : place + 1, () -> x.queued(0, place));
            }
            refused("nobody at place 9", NONE, () -> x.queued(0, 9));
            due("away from the station", 4, () -> x.leave(who));
        }
        sentence("15", "Throws `IndexOutOfBoundsException` if there is no such guest");
        SlopeOperator y = Areas.waiting(16, 2, 1, 1, 90);
        for (int guest : new int[] {-1, 16, LEAST, GREATEST}) {
            refused("guest " + guest, INDEX, () -> y.leave(guest));
        }
        due("guest 15 of 16", 4, () -> y.leave(15));
        sentence("15", "Throws `IllegalStateException` if the guest rides, skis or is away");
        y.addPiste(0, 1, 1, 9);
        y.ski(3, 0);
        y.advance(1);
        refused("rides", STATE, () -> y.leave(0));
        due("waits", 0, () -> y.leave(1));
        refused("skis", STATE, () -> y.leave(3));
        refused("is away", STATE, () -> y.leave(15));
        due("rides on", 9, () -> y.arrival(0));
    }

    private static void whyNotQueue() {
        sentence("16", "Returns why a call of queue would be refused.", "Returns the reason, or 0 if it would not be.");
        SlopeOperator x = Areas.full();
        x.setWind(7);
        for (int guest : range(0, 15)) {
            for (int lift : range(0, 5)) {
                int why = x.whyNotQueue(guest, lift);
                SlopeOperator y = Areas.full();
                y.setWind(7);
                String answer = Told.answer(() -> y.queue(guest, lift));
                due(guest + " at " + lift, why == 0, () -> !answer.equals("UnsupportedOperationException"));
                due(guest + " at " + lift + ", the reason", why == 0 ? "NoSuchElementException" : "" + why,
                        () -> Told.answer(y::reason));
            }
        }
        refused("it keeps no reason", NONE, x::reason);
        sentence("16", "Throws `IndexOutOfBoundsException` if there is no such guest or lift");
        for (int number : new int[] {-1, LEAST, GREATEST}) {
            refused("guest " + number, INDEX, () -> x.whyNotQueue(number, 0));
            refused("lift " + number, INDEX, () -> x.whyNotQueue(0, number));
        }
        refused("guest 16 of 16", INDEX, () -> x.whyNotQueue(16, 0));
        refused("lift 6 of 6", INDEX, () -> x.whyNotQueue(0, 6));
        due("guest 15 and lift 5", 1, () -> x.whyNotQueue(15, 5));
    }

    private static void reason() {
        sentence("18", "Throws `NoSuchElementException` if none was kept");
        SlopeOperator x = againstQueue(0);
        refused("none", NONE, x::reason);
        x.whyNotQueue(15, 0);
        Told.answer(() -> x.queue(16, 0));
        Told.answer(() -> x.leave(16));
        refused("none by other exceptions", NONE, x::reason);
        sentence("18", "Returns the reason that was kept last.", "Returns the reason, 1 to 7.");
        for (int bit : range(0, 4)) {
            SlopeOperator y = againstQueue(1 << bit);
            Told.answer(() -> y.queue(15, 0));
            due("of queue", bit + 1, y::reason);
            due("asked again", bit + 1, y::reason);
        }
        int[] ofSki = {1, 2, 6, 7};
        for (int bit : range(0, 3)) {
            SlopeOperator y = againstSki(1 << bit, false);
            Told.answer(() -> y.ski(0, 0));
            due("of ski", ofSki[bit], y::reason);
        }
        SlopeOperator z = againstQueue(4);
        Told.answer(() -> z.queue(15, 0));
        Told.answer(() -> z.queue(0, 0));
        due("the last one", 1, z::reason);
        z.leave(0);
        z.queue(0, 0);
        due("it stays with a call that is not refused", 1, z::reason);
        refused("a text", STATE, () -> readText(z, "w0;q15-0;"));
        due("the one that a text keeps", 3, z::reason);
        z.endDay();
        due("it stays with a day", 3, z::reason);
    }

    private static void opened() {
        sentence("19", "Returns the lifts that the ticket of a guest opens now.", "Returns the set of lifts.");
        SlopeOperator x = new SlopeOperator();
        for (int lift : range(0, 5)) {
            x.addLift(0, 1, lift % 4, 1, 1, 13);
        }
        for (int zones : range(0, 15)) {
            x.addGuest(7, 1, zones, 1, 1);
        }
        for (int day : range(0, 2)) {
            for (int zones : range(0, 15)) {
                int all = zones + (zones % 4 << 4);
                due("zones " + zones + " on day " + day, day == 1 ? all : 0, () -> x.opened(zones));
            }
            x.endDay();
        }
        SlopeOperator y = Areas.waiting(16, 1, 1, 1, 93);
        y.setWind(9);
        due("a held one too, in the queue", 1, () -> y.opened(0));
        due("no lift, no set", 0, () -> Areas.worn(0).opened(15));
        sentence("19", "Throws `IndexOutOfBoundsException` if there is no such guest");
        for (int guest : new int[] {-1, 16, LEAST, GREATEST}) {
            refused("guest " + guest, INDEX, () -> y.opened(guest));
        }
        refused("guest 0 of none", INDEX, () -> new SlopeOperator().opened(0));
    }

    private static void endDay() {
        sentence("22", "Ends the day.", "Returns the number of guests who are away by that.");
        due("nobody", 0, () -> new SlopeOperator().endDay());
        SlopeOperator x = Areas.worn(4);
        x.leave(15);
        x.leave(14);
        due("those who were not away", 14, x::endDay);
        due("nobody more", 0, x::endDay);
        due("two days", 2, () -> x.count(5));
        x.clear();
        x.addGuest(0, 1, 1, 0, 0);
        due("one", 1, x::endDay);
        sentence("22", "Throws `IllegalStateException` if the day number is 1000");
        // More calls than the document promises an answer for; the class bears them, and the edge is not met before.
        SlopeOperator late = new SlopeOperator();
        late.addPiste(0, 1, 1, 1);
        for (int day : range(1, 999)) {
            late.endDay();
        }
        late.addGuest(0, 1, 15, 1000, 1000);
        due("the day 999", 999, () -> late.count(5));
        due("to the day 1000", 1, late::endDay);
        due("the day 1000", 1000, () -> late.count(5));
        late.advance(3);
        late.addGuest(0, 1, 15, 0, 0);
        refused("no day behind it", STATE, late::endDay);
        due("still the day 1000", 1000, () -> late.count(5));
        due("still the same tick", 3, () -> late.count(4));
        due("the guest is not away", 0, () -> late.guest(1, 0));
        due("ticks can pass", 0, () -> late.advance(50));
        due("a text can be read", 1, () -> readText(late, "g01;"));
        due("the ticket of that guest", 1000, () -> late.guest(2, 6));
        late.undo();
        late.undo();
        late.undo();
        late.undo();
        due("back to the day 999", 3, late::undo);
        due("the day 1000 again", 1, late::endDay);
    }
}
