import java.util.NoSuchElementException;

/** Promises 11 to 20: guests, queues, refusals and tickets. */
public final class GuestPromisesTest {
    private static final Class<IndexOutOfBoundsException> INDEX = IndexOutOfBoundsException.class;
    private static final Class<IllegalArgumentException> ARGUMENT = IllegalArgumentException.class;
    private static final Class<IllegalStateException> STATE = IllegalStateException.class;
    private static final Class<NoSuchElementException> NONE = NoSuchElementException.class;
    private static final Class<UnsupportedOperationException> REFUSED = UnsupportedOperationException.class;

    public static void main(String[] args) {
        promise11AddGuest();
        promise12Guest();
        promise13Queue();
        promise13FullQueue();
        promise14Ski();
        promise15Leave();
        promise16WhyNotQueue();
        promise17WhyNotSki();
        promise18Reason();
        promise19Opened();
        promise20Queued();
        Check.end();
    }

    private static void promise11AddGuest() {
        SlopeOperator x = new SlopeOperator();
        Check.due("11: the first", 0, () -> x.addGuest(0, 1, 0, 0, 0));
        Check.due("11: the second", 1, () -> x.addGuest(7, 3, 15, 1000, 1000));
        Check.due("11: last before first", 2, () -> x.addGuest(7, 3, 15, 1000, 0));
        int[][] wrong = {{0, 0, 0, 0}, {4, 0, 0, 0}, {1, -1, 0, 0}, {1, 16, 0, 0}, {1, 0, -1, 0}, {1, 0, 1001, 0},
            {1, 0, 0, -1}, {1, 0, 0, 1001}};
        for (int[] w : wrong) {
            Check.refused("11: out of range " + java.util.Arrays.toString(w), ARGUMENT,
                    () -> x.addGuest(0, w[0], w[1], w[2], w[3]));
        }
        Check.refused("11: station 8", INDEX, () -> x.addGuest(8, 9, 99, -1, -1));
        Check.refused("11: station -1", INDEX, () -> x.addGuest(-1, 9, 99, -1, -1));
        for (int g = 3; g < 16; g++) {
            int k = g;
            Check.due("11: guest " + k, k, () -> x.addGuest(1, 1, 1, 1, 1));
        }
        Check.refused("11: the seventeenth", STATE, () -> x.addGuest(1, 1, 1, 1, 1));
        Check.refused("11: a wrong seventeenth", ARGUMENT, () -> x.addGuest(1, 0, 1, 1, 1));
        Check.refused("11: a seventeenth nowhere", INDEX, () -> x.addGuest(9, 0, 1, 1, 1));
        x.endDay();
        Check.refused("11: those who are away still count", STATE, () -> x.addGuest(1, 1, 1, 1, 1));
    }

    private static void promise12Guest() {
        SlopeOperator x = new SlopeOperator();
        Check.refused("12: no guest yet", INDEX, () -> x.guest(0, 0));
        x.addLift(4, 5, 1, 2, 1, 30);
        x.addPiste(5, 4, 3, 2);
        x.addGuest(4, 2, 6, 3, 70);
        x.addGuest(4, 3, 2, 0, 9);
        x.addGuest(4, 1, 2, 0, 9);
        x.addGuest(4, 1, 2, 0, 9);
        guestIs(x, "12: at a station", 0, 0, 4, 0, 2, 6, 3, 70);
        x.queue(1, 0);
        x.queue(2, 0);
        x.queue(3, 0);
        guestIs(x, "12: in a queue", 3, 1, 0, 2, 1, 2, 0, 9);
        x.advance(2);
        guestIs(x, "12: riding", 1, 2, 0, 6, 3, 2, 0, 9);
        guestIs(x, "12: one place further", 3, 1, 0, 1, 1, 2, 0, 9);
        x.setWind(8);
        x.advance(1);
        guestIs(x, "12: riding slowly", 1, 2, 0, 5, 3, 2, 0, 9);
        x.setWind(9);
        x.advance(3);
        guestIs(x, "12: held", 1, 2, 0, 5, 3, 2, 0, 9);
        x.setWind(0);
        x.advance(2);
        guestIs(x, "12: nearly there", 1, 2, 0, 1, 3, 2, 0, 9);
        x.advance(1);
        guestIs(x, "12: up", 1, 0, 5, 0, 3, 2, 0, 9);
        x.ski(1, 0);
        guestIs(x, "12: skiing", 1, 3, 0, 2, 3, 2, 0, 9);
        x.advance(1);
        guestIs(x, "12: still skiing", 1, 3, 0, 1, 3, 2, 0, 9);
        x.advance(1);
        guestIs(x, "12: down", 1, 0, 4, 0, 3, 2, 0, 9);
        x.leave(1);
        guestIs(x, "12: away", 1, 4, -1, 0, 3, 2, 0, 9);
        Check.refused("12: what 7", ARGUMENT, () -> x.guest(0, 7));
        Check.refused("12: what -1", ARGUMENT, () -> x.guest(0, -1));
        Check.refused("12: guest 4", INDEX, () -> x.guest(4, 7));
        Check.refused("12: guest -1", INDEX, () -> x.guest(-1, 7));
    }

    private static void guestIs(SlopeOperator x, String name, int guest, int... want) {
        for (int what = 0; what < want.length; what++) {
            int k = what;
            Check.due(name + ", number " + k, want[k], () -> x.guest(guest, k));
        }
    }

    private static void promise13Queue() {
        SlopeOperator x = new SlopeOperator();
        x.addLift(0, 1, 0, 1, 8, 10);
        x.addLift(2, 1, 1, 1, 8, 13);
        x.addGuest(0, 1, 1, 0, 0);
        x.addGuest(2, 1, 1, 0, 0);
        x.addGuest(2, 1, 2, 0, 0);
        Check.refused("13: no such guest", INDEX, () -> x.queue(3, 0));
        Check.refused("13: no such lift", INDEX, () -> x.queue(0, 2));
        Check.refused("13: negative", INDEX, () -> x.queue(-1, 0));
        Check.refused("13: negative lift", INDEX, () -> x.queue(0, -1));
        Check.refused("13: no reason by that", NONE, x::reason);
        refusedFor(x, "13: elsewhere, before the ticket", 1, 0, 2, 1);
        refusedFor(x, "13: the ticket", 1, 1, 3, 2);
        x.setWind(6);
        refusedFor(x, "13: the ticket before the wind", 1, 1, 3, 3);
        refusedFor(x, "13: held", 2, 1, 4, 1);
        x.setWind(5);
        Check.due("13: slow is no refusal", 0, () -> x.queue(2, 1));
        refusedFor(x, "13: not at a station", 2, 1, 1, 2);
        refusedFor(x, "13: not at a station, before elsewhere", 2, 0, 1, 3);
        x.leave(0);
        refusedFor(x, "13: away", 0, 0, 1, 1);
        Check.due("13: the others' accounts", 3, () -> x.guestAccount(1, 2));
        Check.due("13: changes without the refused ones", 7, x::undo);
        Check.due("13: undo takes refusals of later back", 0, () -> x.guestAccount(0, 2));
        Check.due("13: and keeps those before", 3, () -> x.guestAccount(1, 2));
        Check.due("13: the reason stays with undo", 1, x::reason);
    }

    private static void refusedFor(SlopeOperator x, String name, int guest, int lift, int reason, int refusals) {
        Check.due(name + ", told before", reason, () -> x.whyNotQueue(guest, lift));
        Check.refused(name, REFUSED, () -> x.queue(guest, lift));
        Check.due(name + ", the reason", reason, x::reason);
        Check.due(name + ", the account", refusals, () -> x.guestAccount(guest, 2));
    }

    private static void promise13FullQueue() {
        SlopeOperator x = new SlopeOperator();
        x.addLift(0, 1, 0, 6, 8, 90);
        for (int g = 0; g < 12; g++) {
            x.addGuest(0, 1, 1, 0, 0);
        }
        for (int g = 0; g < 10; g++) {
            int k = g;
            Check.due("13: place " + k, k, () -> x.queue(11 - k, 0));
        }
        refusedFor(x, "13: full", 0, 0, 5, 1);
        x.setWind(9);
        refusedFor(x, "13: held before full", 1, 0, 4, 1);
        x.setWind(0);
        x.leave(11);
        Check.due("13: a place again", 9, () -> x.queue(1, 0));
        x.advance(6);
        Check.due("13: the first 8 ride", 8, () -> x.lift(0, 10));
        Check.due("13: the ninth is first", 1, () -> x.queued(0, 1));
        Check.due("13: next place", 2, () -> x.queue(0, 0));
    }

    private static void promise14Ski() {
        SlopeOperator x = new SlopeOperator();
        for (int difficulty = 1; difficulty <= 3; difficulty++) {
            x.addPiste(0, 1, difficulty, 2 + difficulty);
        }
        for (int skill = 1; skill <= 3; skill++) {
            x.addGuest(0, skill, 0, 5, 4);
        }
        Check.refused("14: no such guest", INDEX, () -> x.ski(3, 0));
        Check.refused("14: no such piste", INDEX, () -> x.ski(0, 3));
        Check.refused("14: negative guest", INDEX, () -> x.ski(-1, 0));
        Check.refused("14: negative piste", INDEX, () -> x.ski(0, -1));
        Check.refused("14: too difficult", REFUSED, () -> x.ski(0, 2));
        Check.due("14: the reason", 7, x::reason);
        Check.due("14: the refusal counts", 1, () -> x.guestAccount(0, 2));
        x.open(2, false);
        Check.refused("14: closed before too difficult", REFUSED, () -> x.ski(0, 2));
        Check.due("14: the reason of a closed one", 6, x::reason);
        x.groom(2);
        Check.refused("14: groomed", REFUSED, () -> x.ski(0, 2));
        Check.due("14: the reason of a groomed one", 6, x::reason);
        Check.due("14: three refusals", 3, () -> x.guestAccount(0, 2));
        Check.due("14: a refusal wears nothing", 0, () -> x.piste(2, 5));
        x.open(2, true);
        Check.due("14: above the skill", 8, () -> x.ski(0, 1));
        Check.due("14: of the skill", 4, () -> x.ski(1, 1));
        Check.due("14: below the skill", 4, () -> x.ski(2, 1));
        Check.due("14: wear", 6, () -> x.piste(1, 5));
        Check.due("14: begun", 3, () -> x.pisteAccount(1));
        Check.due("14: the guest's account", 1, () -> x.guestAccount(2, 1));
        Check.refused("14: while skiing", REFUSED, () -> x.ski(2, 1));
        Check.due("14: not at a station", 1, x::reason);
        x.advance(4);
        Check.refused("14: elsewhere", REFUSED, () -> x.ski(2, 1));
        Check.due("14: begins elsewhere", 2, x::reason);
        x.open(1, false);
        Check.due("14: what becomes of the piste does not matter", 1, () -> x.advance(4));
    }

    private static void promise15Leave() {
        SlopeOperator x = new SlopeOperator();
        Check.refused("15: no such guest", INDEX, () -> x.leave(0));
        x.addLift(3, 1, 0, 1, 1, 90);
        x.addPiste(3, 1, 1, 9);
        for (int g = 0; g < 6; g++) {
            x.addGuest(3, 1, 1, 0, 0);
        }
        for (int g = 0; g < 4; g++) {
            x.queue(g, 0);
        }
        x.advance(1);
        x.ski(4, 0);
        Check.refused("15: riding", STATE, () -> x.leave(0));
        Check.refused("15: skiing", STATE, () -> x.leave(4));
        Check.due("15: from the queue", 0, () -> x.leave(2));
        Check.due("15: to its station", 3, () -> x.guest(2, 1));
        Check.due("15: without a place", 0, () -> x.guest(2, 2));
        Check.due("15: the one before stays", 0, () -> x.guest(1, 2));
        Check.due("15: the one behind moves up", 1, () -> x.guest(3, 2));
        x.queue(2, 0);
        Check.due("15: the last of the queue", 0, () -> x.leave(2));
        Check.due("15: the others stay", 1, () -> x.guest(3, 2));
        Check.due("15: away", 4, () -> x.leave(2));
        Check.due("15: nowhere", -1, () -> x.guest(2, 1));
        Check.refused("15: away already", STATE, () -> x.leave(2));
        Check.due("15: from a station", 4, () -> x.leave(5));
        Check.due("15: guest -1", "IndexOutOfBoundsException", () -> x.leave(-1));
        Check.due("15: undone", 7, x::undo);
        Check.due("15: back at the station", 0, () -> x.guest(5, 0));
        x.clear();
        x.addLift(3, 1, 0, 1, 1, 90);
        x.addGuest(3, 1, 1, 0, 0);
        x.addGuest(3, 1, 1, 0, 0);
        x.queue(1, 0);
        x.queue(0, 0);
        Check.due("15: the first of the queue", 0, () -> x.leave(1));
        Check.due("15: the lower number behind moves up", 0, () -> x.guest(0, 2));
    }

    private static void promise16WhyNotQueue() {
        SlopeOperator x = new SlopeOperator();
        x.addLift(0, 1, 0, 1, 8, 10);
        x.addGuest(0, 1, 1, 1, 1);
        Check.due("16: too early", 3, () -> x.whyNotQueue(0, 0));
        x.endDay();
        Check.due("16: away", 1, () -> x.whyNotQueue(0, 0));
        x.addGuest(0, 1, 1, 1, 1);
        x.addGuest(0, 1, 1, 2, 1);
        x.addGuest(0, 1, 14, 0, 9);
        x.addGuest(0, 1, 1, 0, 0);
        Check.due("16: nothing is against it", 0, () -> x.whyNotQueue(1, 0));
        Check.due("16: last before first", 3, () -> x.whyNotQueue(2, 0));
        Check.due("16: other zones", 3, () -> x.whyNotQueue(3, 0));
        Check.due("16: too late", 3, () -> x.whyNotQueue(4, 0));
        Check.refused("16: no such lift", INDEX, () -> x.whyNotQueue(1, 1));
        Check.refused("16: no such guest", INDEX, () -> x.whyNotQueue(5, 0));
        Check.refused("16: negative", INDEX, () -> x.whyNotQueue(-1, -1));
        Check.refused("16: it keeps no reason", NONE, x::reason);
        Check.due("16: it counts nothing", 0, () -> x.guestAccount(2, 2));
        Check.due("16: it changes nothing", 0, () -> x.guest(1, 0));
    }

    private static void promise17WhyNotSki() {
        SlopeOperator x = new SlopeOperator();
        x.addPiste(0, 1, 3, 1);
        x.addGuest(0, 1, 0, 0, 0);
        x.addGuest(0, 2, 0, 0, 0);
        x.addGuest(1, 1, 0, 0, 0);
        Check.due("17: too difficult", 7, () -> x.whyNotSki(0, 0));
        Check.due("17: nothing is against it", 0, () -> x.whyNotSki(1, 0));
        x.open(0, false);
        Check.due("17: not open", 6, () -> x.whyNotSki(0, 0));
        Check.due("17: elsewhere", 2, () -> x.whyNotSki(2, 0));
        x.leave(2);
        Check.due("17: away", 1, () -> x.whyNotSki(2, 0));
        Check.refused("17: no such piste", INDEX, () -> x.whyNotSki(1, 1));
        Check.refused("17: no such guest", INDEX, () -> x.whyNotSki(3, 0));
        Check.refused("17: negative", INDEX, () -> x.whyNotSki(-1, -1));
        Check.refused("17: it keeps no reason", NONE, x::reason);
        Check.due("17: it counts nothing", 0, () -> x.guestAccount(0, 2));
    }

    private static void promise18Reason() {
        SlopeOperator x = new SlopeOperator();
        Check.refused("18: none yet", NONE, x::reason);
        x.addPiste(0, 1, 3, 1);
        x.addLift(0, 1, 0, 1, 8, 10);
        x.addGuest(0, 1, 0, 0, 0);
        Check.refused("18: ski", REFUSED, () -> x.ski(0, 0));
        Check.due("18: 7", 7, x::reason);
        Check.refused("18: queue", REFUSED, () -> x.queue(0, 0));
        Check.due("18: 3", 3, x::reason);
        x.addGuest(0, 2, 0, 0, 0);
        x.ski(1, 0);
        Check.due("18: it stays with what is not refused", 3, x::reason);
        x.save();
        x.undo();
        Check.due("18: it stays with undo", 3, x::reason);
        x.restore();
        Check.due("18: it stays with restore", 3, x::reason);
        x.clear();
        Check.due("18: it stays with clear", 3, x::reason);
    }

    private static void promise19Opened() {
        SlopeOperator x = new SlopeOperator();
        Check.refused("19: no such guest", INDEX, () -> x.opened(0));
        for (int lift = 0; lift < 6; lift++) {
            x.addLift(0, 1, lift % 4, 1, 8, 10);
        }
        int[] wants = {0, 17, 34, 51, 4, 21, 38, 55, 8, 25, 42, 59, 12, 29, 46, 63};
        for (int zones = 0; zones < 16; zones++) {
            int k = zones;
            x.addGuest(zones % 8, 1, zones, 1, 2);
            Check.due("19: on day 0", 0, () -> x.opened(k));
        }
        x.setWind(9);
        x.endDay();
        for (int zones = 0; zones < 16; zones++) {
            int k = zones;
            Check.due("19: zones " + k + ", away, with all held", wants[k], () -> x.opened(k));
        }
        x.endDay();
        Check.due("19: on the last day", 63, () -> x.opened(15));
        x.endDay();
        Check.due("19: behind the last day", 0, () -> x.opened(15));
        Check.refused("19: guest 16", INDEX, () -> x.opened(16));
        Check.refused("19: guest -1", INDEX, () -> x.opened(-1));
    }

    private static void promise20Queued() {
        SlopeOperator x = new SlopeOperator();
        Check.refused("20: no such lift", INDEX, () -> x.queued(0, 0));
        x.addLift(0, 1, 0, 1, 8, 10);
        x.addLift(0, 1, 0, 1, 2, 10);
        for (int g = 0; g < 5; g++) {
            x.addGuest(0, 1, 1, 0, 0);
        }
        x.queue(3, 1);
        x.queue(0, 1);
        x.queue(4, 1);
        x.queue(1, 0);
        Check.due("20: first", 3, () -> x.queued(1, 0));
        Check.due("20: second", 0, () -> x.queued(1, 1));
        Check.due("20: third", 4, () -> x.queued(1, 2));
        Check.due("20: of the other lift", 1, () -> x.queued(0, 0));
        Check.refused("20: place 3", NONE, () -> x.queued(1, 3));
        Check.refused("20: place -1", NONE, () -> x.queued(1, -1));
        Check.refused("20: lift 2", INDEX, () -> x.queued(2, -1));
        Check.refused("20: lift -1", INDEX, () -> x.queued(-1, 0));
        x.advance(1);
        Check.due("20: the rest moves up", 4, () -> x.queued(1, 0));
        Check.refused("20: the empty queue", NONE, () -> x.queued(0, 0));
        x.endDay();
        Check.refused("20: empty at the end of the day", NONE, () -> x.queued(1, 0));
    }
}
