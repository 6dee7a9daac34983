import java.util.NoSuchElementException;

/** Promises 21 to 28: ticks, days, what is ahead, and ways. */
public final class TickPromisesTest {
    private static final Class<IndexOutOfBoundsException> INDEX = IndexOutOfBoundsException.class;
    private static final Class<IllegalArgumentException> ARGUMENT = IllegalArgumentException.class;
    private static final Class<IllegalStateException> STATE = IllegalStateException.class;
    private static final Class<NoSuchElementException> NONE = NoSuchElementException.class;

    public static void main(String[] args) {
        promise21Advance();
        promise21LastTick();
        promise22EndDay();
        promise22LastDay();
        promise23Arrival();
        promise23Horizon();
        promise24NextCabin();
        promise25And26Ways();
        promise26FirstOfSeveralParts();
        promise27And28Stations();
        Check.end();
    }

    private static void promise21Advance() {
        SlopeOperator x = new SlopeOperator();
        Check.refused("21: 0 ticks", ARGUMENT, () -> x.advance(0));
        Check.refused("21: 51 ticks", ARGUMENT, () -> x.advance(51));
        Check.refused("21: negative", ARGUMENT, () -> x.advance(Integer.MIN_VALUE));
        Check.refused("21: huge", ARGUMENT, () -> x.advance(Integer.MAX_VALUE));
        Check.due("21: nobody", 0, () -> x.advance(50));
        Check.due("21: tick number", 50, () -> x.count(4));
        x.addLift(0, 1, 0, 1, 2, 10);
        x.addPiste(1, 0, 1, 1);
        for (int g = 0; g < 5; g++) {
            x.addGuest(0, 1, 1, 0, 0);
            x.queue(g, 0);
        }
        Check.due("21: one made in a tick is looked at in the next", 0, () -> x.advance(1));
        Check.due("21: two come up", 2, () -> x.advance(1));
        Check.due("21: two and one come up", 3, () -> x.advance(2));
        Check.due("21: cabins, empty ones too", 4, () -> x.liftAccount(0, 1));
        Check.due("21: riders", 5, () -> x.liftAccount(0, 0));
        x.ski(0, 0);
        Check.due("21: by a call before it, in the next tick", 1, () -> x.advance(1));
        x.setWind(6);
        x.queue(0, 0);
        Check.due("21: slow", 0, () -> x.advance(3));
        Check.due("21: slow, on the way", 2, () -> x.guest(0, 0));
        Check.due("21: slow, there", 1, () -> x.advance(1));
        Check.due("21: audit", 0, x::audit);
    }

    private static void promise21LastTick() {
        SlopeOperator x = new SlopeOperator();
        x.addGuest(0, 1, 1, 0, 0);
        x.addLift(0, 1, 0, 6, 1, 90);
        for (int i = 0; i < 19; i++) {
            x.advance(50);
        }
        x.advance(49);
        Check.refused("21: above 1000", STATE, () -> x.advance(2));
        Check.refused("21: out of range comes first", ARGUMENT, () -> x.advance(51));
        Check.due("21: still 999", 999, () -> x.count(4));
        Check.due("21: to 1000", 0, () -> x.advance(1));
        Check.refused("21: from 1000", STATE, () -> x.advance(1));
        x.queue(0, 0);
        Check.due("21: arrival looks ahead all the same", 11, () -> x.arrival(0));
        x.endDay();
        Check.due("21: a new day", 0, () -> x.advance(1));
        Check.due("21: its first tick", 1, () -> x.count(4));
    }

    private static void promise22EndDay() {
        SlopeOperator x = new SlopeOperator();
        x.addLift(0, 1, 0, 3, 1, 90);
        x.addPiste(0, 1, 2, 9);
        x.addPiste(0, 1, 3, 9);
        x.addPiste(0, 1, 3, 9);
        for (int g = 0; g < 6; g++) {
            x.addGuest(0, 2, 1, 0, 0);
        }
        x.queue(0, 0);
        x.queue(1, 0);
        x.ski(2, 0);
        x.ski(3, 2);
        x.leave(4);
        x.open(1, false);
        x.open(2, false);
        x.groom(2);
        x.setWind(6);
        x.advance(7);
        x.open(2, false);
        x.groom(2);
        Check.due("22: one rides, one waits", 1, () -> x.lift(0, 9));
        Check.due("22: the clock", 1, () -> x.lift(0, 8));
        Check.due("22: guests who are away by that", 5, x::endDay);
        for (int g = 0; g < 6; g++) {
            int k = g;
            Check.due("22: away", 4, () -> x.guest(k, 0));
            Check.due("22: nowhere", -1, () -> x.guest(k, 1));
            Check.due("22: no rest", 0, () -> x.guest(k, 2));
        }
        Check.due("22: no queue", 0, () -> x.lift(0, 9));
        Check.due("22: nobody rides", 0, () -> x.lift(0, 10));
        Check.due("22: the clock is 0", 0, () -> x.lift(0, 8));
        Check.due("22: the tick number is 0", 0, () -> x.count(4));
        Check.due("22: the day number", 1, () -> x.count(5));
        Check.due("22: the wind stays", 6, () -> x.count(3));
        Check.due("22: the wear stays", 2, () -> x.piste(0, 5));
        Check.due("22: an open one stays", 0, () -> x.piste(0, 4));
        Check.due("22: a closed one stays", 1, () -> x.piste(1, 4));
        Check.due("22: a groomed one is open", 0, () -> x.piste(2, 4));
        Check.due("22: without wear", 0, () -> x.piste(2, 5));
        Check.due("22: without a rest", 0, () -> x.piste(2, 6));
        Check.due("22: the accounts stay", 1, () -> x.liftAccount(0, 0));
        Check.due("22: and the guest's", 1, () -> x.guestAccount(0, 0));
        Check.due("22: nobody is left", 0, x::endDay);
        x.open(0, false);
        x.groom(0);
        x.endDay();
        Check.due("22: the first piste is groomed", 0, () -> x.piste(0, 4));
    }

    private static void promise22LastDay() {
        SlopeOperator x = new SlopeOperator();
        SlopeOperator last = daysLater(x, 1000);
        Check.due("22: day 1000", 1000, () -> last.count(5));
        Check.refused("22: no day behind it", STATE, last::endDay);
        Check.due("22: still day 1000", 1000, () -> last.count(5));
    }

    /** More calls than the document promises, which the class bears all the same. */
    private static SlopeOperator daysLater(SlopeOperator x, int days) {
        for (int i = 0; i < days; i++) {
            x.endDay();
        }
        return x;
    }

    private static void promise23Arrival() {
        SlopeOperator x = new SlopeOperator();
        Check.refused("23: no such guest", INDEX, () -> x.arrival(0));
        x.addLift(0, 1, 0, 3, 2, 40);
        x.addPiste(0, 1, 2, 5);
        for (int g = 0; g < 8; g++) {
            x.addGuest(0, 1, 1, 0, 0);
        }
        Check.due("23: at a station", 0, () -> x.arrival(0));
        x.leave(7);
        Check.refused("23: away", NONE, () -> x.arrival(7));
        x.ski(6, 0);
        Check.due("23: skiing", 10, () -> x.arrival(6));
        for (int g = 0; g < 5; g++) {
            x.queue(g, 0);
        }
        int[] wants = {7, 7, 10, 10, 13};
        for (int g = 0; g < 5; g++) {
            int k = g;
            Check.due("23: in the queue " + k, wants[k], () -> x.arrival(k));
        }
        x.advance(4);
        for (int g = 0; g < 5; g++) {
            int k = g;
            Check.due("23: 4 ticks later " + k, wants[k] - 4, () -> x.arrival(k));
        }
        Check.due("23: skiing, 4 ticks later", 6, () -> x.arrival(6));
        x.setWind(8);
        int[] slow = {6, 6, 12, 12, 18};
        for (int g = 0; g < 5; g++) {
            int k = g;
            Check.due("23: slow " + k, slow[k], () -> x.arrival(k));
        }
        x.advance(1);
        x.setWind(0);
        int[] odd = {3, 3, 6, 6, 9};
        for (int g = 0; g < 5; g++) {
            int k = g;
            Check.due("23: odd rests " + k, odd[k], () -> x.arrival(k));
        }
        x.setWind(9);
        Check.refused("23: held on the way", NONE, () -> x.arrival(0));
        Check.refused("23: held in the queue", NONE, () -> x.arrival(4));
        Check.due("23: the wind does not matter on a piste", 5, () -> x.arrival(6));
        Check.refused("23: guest 8", INDEX, () -> x.arrival(8));
        Check.refused("23: guest -1", INDEX, () -> x.arrival(-1));
    }

    private static void promise23Horizon() {
        SlopeOperator x = new SlopeOperator();
        x.addLift(0, 1, 0, 6, 1, 60);
        for (int g = 0; g < 10; g++) {
            x.addGuest(0, 1, 1, 0, 0);
            x.queue(g, 0);
        }
        Check.due("23: exactly 60", 60, () -> x.arrival(8));
        Check.refused("23: 66", NONE, () -> x.arrival(9));
        x.advance(6);
        Check.due("23: 60 then", 60, () -> x.arrival(9));
        SlopeOperator y = new SlopeOperator();
        y.addLift(0, 1, 0, 3, 1, 73);
        for (int g = 0; g < 9; g++) {
            y.addGuest(0, 1, 1, 0, 0);
            y.queue(g, 0);
        }
        y.setWind(3);
        Check.due("23: slow, 56", 56, () -> y.arrival(6));
        Check.refused("23: slow, 62", NONE, () -> y.arrival(7));
        y.advance(1);
        Check.refused("23: slow, 61", NONE, () -> y.arrival(7));
        y.advance(1);
        Check.due("23: slow, 60", 60, () -> y.arrival(7));
    }

    private static void promise24NextCabin() {
        SlopeOperator x = new SlopeOperator();
        Check.refused("24: no such lift", INDEX, () -> x.nextCabin(0));
        for (int interval = 1; interval <= 6; interval++) {
            int k = interval - 1;
            x.addLift(0, 1, 0, interval, 1, 10);
            Check.due("24: at first", interval, () -> x.nextCabin(k));
        }
        x.setWind(6);
        for (int interval = 1; interval <= 6; interval++) {
            int k = interval - 1;
            Check.due("24: slow", 2 * interval, () -> x.nextCabin(k));
        }
        x.advance(3);
        int[] slow = {1, 1, 3, 5, 7, 9};
        int[] running = {1, 1, 2, 3, 4, 5};
        for (int i = 0; i < 6; i++) {
            int k = i;
            Check.due("24: slow, 3 ticks later", slow[k], () -> x.nextCabin(k));
        }
        x.setWind(5);
        for (int i = 0; i < 6; i++) {
            int k = i;
            Check.due("24: running with odd clocks", running[k], () -> x.nextCabin(k));
        }
        x.setWind(9);
        for (int i = 0; i < 6; i++) {
            int k = i;
            Check.refused("24: held", NONE, () -> x.nextCabin(k));
        }
        Check.refused("24: lift 6", INDEX, () -> x.nextCabin(6));
        Check.refused("24: lift -1", INDEX, () -> x.nextCabin(-1));
    }

    private static SlopeOperator wayArea() {
        SlopeOperator x = new SlopeOperator();
        x.addLift(0, 1, 0, 1, 1, 50);
        x.addLift(1, 2, 1, 1, 1, 33);
        x.addLift(0, 2, 2, 1, 1, 90);
        x.addPiste(2, 0, 1, 4);
        x.addPiste(2, 1, 3, 1);
        x.addPiste(1, 0, 2, 3);
        x.addPiste(2, 3, 2, 2);
        x.addGuest(0, 1, 15, 0, 0);
        x.addGuest(5, 2, 3, 0, 0);
        x.addGuest(7, 3, 4, 0, 0);
        x.addGuest(7, 3, 15, 1, 2);
        return x;
    }

    private static void promise25And26Ways() {
        SlopeOperator x = wayArea();
        way(x, "two lifts", 1, 0, 2, 8, 0);
        way(x, "the lift of its zone alone", 2, 0, 2, 9, 2);
        way(x, "a piste above the skill takes twice", 0, 1, 0, 6, 102);
        way(x, "a piste of the skill", 1, 1, 0, 3, 102);
        way(x, "a piste 2 above the skill is none", 0, 2, 1, 9, 100);
        way(x, "a piste 1 above the skill", 1, 2, 1, 2, 101);
        way(x, "several parts", 0, 0, 3, 12, 0);
        Check.due("25: both the same", 0, () -> x.duration(0, 6, 6));
        Check.refused("26: both the same", NONE, () -> x.firstPart(0, 6, 6));
        noWay(x, "nothing leads there", 0, 0, 4);
        noWay(x, "nothing leads from there", 0, 3, 0);
        noWay(x, "the ticket is for later", 3, 0, 2);
        way(x, "pistes need no ticket", 3, 2, 0, 4, 100);
        x.setWind(8);
        way(x, "slow lifts do not matter, held ones do", 1, 0, 1, 5, 0);
        noWay(x, "a held lift", 1, 0, 2);
        way(x, "the longer one runs", 0, 0, 2, 9, 2);
        x.setWind(0);
        x.open(2, false);
        noWay(x, "a closed piste", 2, 1, 0);
        x.groom(2);
        noWay(x, "a groomed piste", 2, 1, 0);
        x.open(2, true);
        way(x, "an open piste", 2, 1, 0, 3, 102);
        x.endDay();
        way(x, "also for one who is away", 3, 0, 2, 8, 0);
        noWay(x, "the ticket is over", 0, 0, 2);
        int[][] wrong = {{4, 0, 0}, {-1, 0, 0}, {0, 8, 0}, {0, 0, 8}, {0, -1, 0}, {0, 0, -1}, {0, 8, 8}};
        for (int[] w : wrong) {
            Check.refused("25: not there", INDEX, () -> x.duration(w[0], w[1], w[2]));
            Check.refused("26: not there", INDEX, () -> x.firstPart(w[0], w[1], w[2]));
        }
    }

    private static void way(SlopeOperator x, String name, int guest, int from, int to, int duration, int part) {
        Check.due("25: " + name, duration, () -> x.duration(guest, from, to));
        Check.due("26: " + name, part, () -> x.firstPart(guest, from, to));
    }

    private static void noWay(SlopeOperator x, String name, int guest, int from, int to) {
        Check.refused("25: " + name, NONE, () -> x.duration(guest, from, to));
        Check.refused("26: " + name, NONE, () -> x.firstPart(guest, from, to));
    }

    private static void promise26FirstOfSeveralParts() {
        SlopeOperator x = new SlopeOperator();
        x.addPiste(0, 1, 1, 6);
        x.addPiste(0, 2, 1, 3);
        x.addPiste(2, 1, 1, 3);
        x.addGuest(0, 3, 15, 0, 9);
        Check.due("26: the lower piste", 100, () -> x.firstPart(0, 0, 1));
        x.addLift(0, 1, 0, 1, 1, 70);
        Check.due("26: a longer lift does not come first", 100, () -> x.firstPart(0, 0, 1));
        x.addLift(0, 3, 0, 1, 1, 50);
        x.addLift(3, 1, 0, 1, 1, 10);
        Check.due("26: lifts come before pistes", 1, () -> x.firstPart(0, 0, 1));
        x.addLift(0, 1, 0, 1, 1, 60);
        Check.due("26: the lower lift", 1, () -> x.firstPart(0, 0, 1));
        x.addPiste(1, 0, 1, 1);
        x.addPiste(1, 0, 1, 1);
        Check.due("26: the lower of two pistes", 103, () -> x.firstPart(0, 1, 0));
    }

    private static void promise27And28Stations() {
        SlopeOperator x = wayArea();
        Check.due("27: all of the area", 15, () -> x.reachable(0, 0));
        Check.due("27: from the end of a piste", 8, () -> x.reachable(0, 3));
        Check.due("27: a station alone", 128, () -> x.reachable(0, 7));
        Check.due("27: without a ticket, from the top", 15, () -> x.reachable(3, 2));
        Check.due("27: without a ticket, from below", 1, () -> x.reachable(3, 0));
        Check.due("28: to the first", 248, () -> x.stranded(0, 0));
        Check.due("28: to the end of a piste", 240, () -> x.stranded(0, 3));
        Check.due("28: to a station alone", 127, () -> x.stranded(0, 7));
        Check.due("28: without a ticket", 251, () -> x.stranded(3, 2));
        x.setWind(9);
        Check.due("27: all held", 1, () -> x.reachable(0, 0));
        Check.due("28: all held", 251, () -> x.stranded(0, 2));
        x.open(0, false);
        Check.due("27: a closed piste", 12, () -> x.reachable(0, 2));
        Check.due("27: by the more difficult ones", 15, () -> x.reachable(1, 2));
        int[][] wrong = {{4, 0}, {-1, 0}, {0, 8}, {0, -1}};
        for (int[] w : wrong) {
            Check.refused("27: not there", INDEX, () -> x.reachable(w[0], w[1]));
            Check.refused("28: not there", INDEX, () -> x.stranded(w[0], w[1]));
        }
        SlopeOperator chain = new SlopeOperator();
        chain.addGuest(0, 1, 15, 0, 0);
        for (int s = 7; s > 0; s--) {
            chain.addPiste(s, s - 1, 1, 9);
        }
        Check.due("27: down a chain", 255, () -> chain.reachable(0, 7));
        Check.due("25: down a chain", 63, () -> chain.duration(0, 7, 0));
        Check.due("28: up a chain", 0, () -> chain.stranded(0, 0));
        Check.due("28: to the top", 127, () -> chain.stranded(0, 7));
        SlopeOperator other = new SlopeOperator();
        other.addGuest(0, 1, 15, 0, 0);
        for (int s = 1; s < 8; s++) {
            other.addPiste(s, s - 1, 1, 9);
        }
        Check.due("27: down a chain that was made from below", 255, () -> other.reachable(0, 7));
        Check.due("25: down it", 63, () -> other.duration(0, 7, 0));
        Check.due("26: down it", 106, () -> other.firstPart(0, 7, 0));
        Check.due("28: up it", 0, () -> other.stranded(0, 0));
    }
}
