/** Sentences about ways, and about the promises 25 to 28. */
final class WayBounds extends Bounds {
    private WayBounds() {
    }

    static void ask() {
        sequences();
        liftsOfWays();
        pistesOfWays();
        durationsOfParts();
        doesNotMatter();
        forAllStates();
        leastDuration();
        longWays();
        firstPart();
        reachable();
        stranded();
        wrongNumbers();
    }

    private static SlopeOperator withGuest(int skill) {
        SlopeOperator x = new SlopeOperator();
        addGuests(x, 1, 0, skill);
        return x;
    }

    private static void way(SlopeOperator x, String name, int from, int to, int duration, int part) {
        due(name + ", duration", duration, () -> x.duration(0, from, to));
        due(name + ", first part", part, () -> x.firstPart(0, from, to));
        due(name + ", reachable", true, () -> (x.reachable(0, from) >> to & 1) == 1);
        due(name + ", not stranded", true, () -> (x.stranded(0, to) >> from & 1) == 0);
    }

    private static void noWay(SlopeOperator x, String name, int from, int to) {
        refused(name + ", no duration", NONE, () -> x.duration(0, from, to));
        refused(name + ", no first part", NONE, () -> x.firstPart(0, from, to));
        due(name + ", not reachable", false, () -> (x.reachable(0, from) >> to & 1) == 1);
        due(name + ", stranded", false, () -> (x.stranded(0, to) >> from & 1) == 0);
    }

    private static void sequences() {
        sentence("Ways", "A way of a guest from a station to another one is a sequence of lifts and pistes");
        SlopeOperator x = withGuest(3);
        x.addLift(0, 1, 0, 1, 1, 20);
        x.addPiste(1, 2, 1, 3);
        x.addLift(2, 3, 0, 1, 1, 40);
        x.addPiste(4, 3, 1, 5);
        x.addPiste(4, 5, 1, 6);
        way(x, "one lift", 0, 1, 2, 0);
        way(x, "one piste", 1, 2, 3, 100);
        way(x, "a lift and a piste", 0, 2, 5, 0);
        way(x, "a lift, a piste and a lift", 0, 3, 9, 0);
        noWay(x, "not against a lift", 1, 0);
        noWay(x, "not against a piste", 2, 1);
        noWay(x, "both lead to the same", 3, 4);
        noWay(x, "both begin at the same", 3, 5);
        noWay(x, "nothing begins there", 3, 0);
        noWay(x, "nothing leads there", 0, 7);
    }

    private static void liftsOfWays() {
        sentence("Ways", "Only lifts that the ticket opens now and that are not held now, and pistes that are open now");
        for (int exposure : range(0, 3)) {
            SlopeOperator x = withGuest(1);
            x.addLift(0, 7, 3, 1, 1, 50 + exposure);
            x.setWind(8 - exposure);
            way(x, "force 8, exposure " + exposure, 0, 7, 5, 0);
            x.setWind(9 - exposure);
            noWay(x, "force 9, exposure " + exposure, 0, 7);
        }
        SlopeOperator y = new SlopeOperator();
        y.addLift(0, 7, 3, 1, 1, 50);
        y.addGuest(0, 1, 8, 1, 2);
        noWay(y, "the day before", 0, 7);
        y.endDay();
        way(y, "the first day", 0, 7, 5, 0);
        y.endDay();
        way(y, "the last day", 0, 7, 5, 0);
        y.endDay();
        noWay(y, "the day behind", 0, 7);
        SlopeOperator z = new SlopeOperator();
        z.addGuest(0, 1, 7, 0, 0);
        z.addLift(0, 7, 3, 1, 1, 50);
        noWay(z, "another zone", 0, 7);
    }

    private static void pistesOfWays() {
        for (int skill : range(1, 3)) {
            for (int difficulty : range(1, 3)) {
                SlopeOperator x = withGuest(skill);
                x.addPiste(0, 7, difficulty, 5);
                String name = "skill " + skill + ", difficulty " + difficulty;
                if (difficulty == skill + 2) {
                    noWay(x, name, 0, 7);
                } else {
                    way(x, name, 0, 7, difficulty > skill ? 10 : 5, 100);
                }
            }
        }
        SlopeOperator worn = Areas.worn(20);
        way(worn, "with wear 20, but open", 0, 1, 1, 100);
        worn.advance(1);
        noWay(worn, "closed for its wear", 0, 1);
        worn.groom(0);
        noWay(worn, "groomed", 0, 1);
        worn.advance(4);
        noWay(worn, "a tick before it is open", 0, 1);
        worn.advance(1);
        way(worn, "open again", 0, 1, 1, 100);
        worn.open(0, false);
        noWay(worn, "closed by a call", 0, 1);
    }

    private static void durationsOfParts() {
        sentence("Ways", "The duration of a way is the sum of the rides of its lifts and of the rests that its pistes");
        for (int number : range(1, 9)) {
            SlopeOperator x = withGuest(1);
            x.addLift(0, 1, 0, 6, 1, 10 * number + 3);
            x.addPiste(1, 2, 1, number);
            x.addPiste(2, 3, 2, number);
            way(x, "a ride of " + number, 0, 1, number, 0);
            way(x, "a piste of the skill, length " + number, 1, 2, number, 100);
            way(x, "a piste above the skill, length " + number, 2, 3, 2 * number, 101);
            way(x, "their sum", 0, 3, 4 * number, 0);
        }
    }

    private static void doesNotMatter() {
        SlopeOperator x = Areas.waiting(12, 10, 6, 1, 90);
        way(x, "with a full queue", 0, 1, 9, 0);
        x.setWind(8);
        way(x, "slow", 0, 1, 9, 0);
        x.setWind(0);
        x.addPiste(1, 0, 1, 1);
        x.open(0, false);
        x.groom(0);
        noWay(x, "a piste that is open a tick later", 1, 0);
        x.endDay();
        way(x, "behind the end of the day", 1, 0, 1, 100);
    }

    private static void forAllStates() {
        sentence("More precisely", "nextCabin tells also of a lift without guests, and ways are told also for guests who ride");
        SlopeOperator x = Areas.waiting(6, 4, 2, 1, 90);
        x.addPiste(0, 7, 1, 9);
        x.addPiste(1, 0, 2, 9);
        x.ski(4, 0);
        x.advance(2);
        x.leave(5);
        int[] states = {2, 1, 1, 1, 3, 4};
        for (int guest : range(0, 5)) {
            due("the state", states[guest], () -> x.guest(guest, 0));
            due("duration", 18 + 9, () -> x.duration(guest, 1, 7));
            due("first part", 101, () -> x.firstPart(guest, 1, 7));
            due("reachable", 131, () -> x.reachable(guest, 1));
            due("stranded", 124, () -> x.stranded(guest, 7));
        }
        SlopeOperator y = new SlopeOperator();
        y.addLift(0, 1, 0, 4, 1, 10);
        due("the next cabin without guests", 4, () -> y.nextCabin(0));
    }

    private static void leastDuration() {
        sentence("25", "Returns the least duration of a way of a guest between two stations.");
        SlopeOperator x = withGuest(3);
        x.addLift(0, 1, 0, 1, 1, 90);
        way(x, "the only one", 0, 1, 9, 0);
        x.addPiste(0, 1, 1, 8);
        way(x, "1 less", 0, 1, 8, 100);
        x.addPiste(0, 2, 1, 4);
        x.addPiste(2, 1, 1, 4);
        way(x, "as long", 0, 1, 8, 100);
        x.addPiste(2, 1, 1, 3);
        way(x, "two parts are shorter", 0, 1, 7, 101);
        x.open(1, false);
        way(x, "the shorter one is closed", 0, 1, 8, 100);
        sentence("25", "Returns the duration, 0 if both are the same.");
        for (int station : range(0, 7)) {
            due("station " + station, 0, () -> x.duration(0, station, station));
        }
        sentence("25", "Throws `NoSuchElementException` if there is no way");
        noWay(x, "none", 1, 0);
    }

    /** A way has at most 7 parts; each order in which its parts were added is tried. */
    private static void longWays() {
        for (boolean isFromBelow : new boolean[] {false, true}) {
            SlopeOperator x = withGuest(1);
            for (int i : range(0, 6)) {
                int station = isFromBelow ? 6 - i : i;
                x.addPiste(station, station + 1, 2, 9);
            }
            way(x, "7 pistes", 0, 7, 126, isFromBelow ? 106 : 100);
            due("all are reachable", 255, () -> x.reachable(0, 0));
            due("none is stranded", 0, () -> x.stranded(0, 7));
            due("all others are stranded", 254, () -> x.stranded(0, 0));
            due("no other one is reachable", 128, () -> x.reachable(0, 7));
            SlopeOperator y = withGuest(1);
            for (int i : range(0, 5)) {
                int station = isFromBelow ? 5 - i : i;
                y.addLift(station, station + 1, i % 4, 1, 1, 90);
            }
            y.addPiste(6, 7, 2, 9);
            way(y, "6 lifts and a piste", 0, 7, 72, isFromBelow ? 5 : 0);
            y.addPiste(7, 0, 1, 1);
            way(y, "around", 7, 6, 55, 101);
        }
    }

    private static void firstPart() {
        sentence("26", "Returns the first part of a way with the least duration; of several such parts, lifts come before",
                "Returns the number of the lift, or 100 plus that of the piste.");
        SlopeOperator x = withGuest(3);
        for (int lift : range(0, 5)) {
            x.addLift(0, 1, 0, 1, 1, 60 - (lift == 5 ? 10 : 0));
        }
        for (int piste : range(0, 9)) {
            x.addPiste(1, 0, 1, 6 - (piste == 9 ? 1 : 0));
        }
        due("asked before any duration", 5, () -> x.firstPart(0, 0, 1));
        way(x, "the last lift", 0, 1, 5, 5);
        way(x, "the last piste", 1, 0, 5, 109);
        x.open(9, false);
        due("asked before the new duration", 100, () -> x.firstPart(0, 1, 0));
        way(x, "the lowest of 9 pistes", 1, 0, 6, 100);
        x.open(0, false);
        way(x, "the lowest of 8 pistes", 1, 0, 6, 101);
        x.setWind(9);
        noWay(x, "all lifts are held", 0, 1);
        SlopeOperator y = withGuest(3);
        y.addPiste(0, 1, 1, 6);
        y.addLift(0, 1, 0, 1, 1, 70);
        way(y, "a longer lift does not come before a piste", 0, 1, 6, 100);
        y.addLift(0, 2, 0, 1, 1, 50);
        y.addLift(2, 1, 0, 1, 1, 10);
        way(y, "a lift that begins a way as long comes before it", 0, 1, 6, 1);
        y.addLift(0, 1, 0, 1, 1, 60);
        way(y, "the lower lift", 0, 1, 6, 1);
        sentence("26", "Throws `NoSuchElementException` if there is no way, or both stations are the same");
        for (int station : range(0, 7)) {
            refused("the same " + station, NONE, () -> x.firstPart(0, station, station));
        }
        refused("no way", NONE, () -> y.firstPart(0, 1, 2));
        SlopeOperator around = withGuest(3);
        around.addPiste(0, 1, 1, 1);
        around.addPiste(1, 0, 1, 1);
        refused("the same, though ways lead around", NONE, () -> around.firstPart(0, 0, 0));
        due("0, though ways lead around", 0, () -> around.duration(0, 0, 0));
    }

    private static void reachable() {
        sentence("27", "Returns the stations that a guest can come to by ways from a station, this one included.",
                "Returns the set of stations.");
        SlopeOperator x = withGuest(3);
        for (int station : range(0, 7)) {
            due("alone " + station, 1 << station, () -> x.reachable(0, station));
        }
        for (int station : range(1, 7)) {
            x.addPiste(0, station, 1, 1);
            due("from the middle " + station, (2 << station) - 1, () -> x.reachable(0, 0));
            due("from the end " + station, 1 << station, () -> x.reachable(0, station));
        }
        x.addLift(7, 0, 0, 1, 1, 10);
        due("all", 255, () -> x.reachable(0, 7));
        due("still alone", 64, () -> x.reachable(0, 6));
        x.setWind(9);
        due("held", 128, () -> x.reachable(0, 7));
    }

    private static void stranded() {
        sentence("28", "Returns the stations from which a guest could not come to a station by ways.",
                "Returns the set of stations.");
        SlopeOperator x = withGuest(3);
        for (int station : range(0, 7)) {
            due("all but itself " + station, 255 - (1 << station), () -> x.stranded(0, station));
        }
        for (int station : range(1, 7)) {
            x.addPiste(station, 0, 1, 1);
            due("to the middle " + station, 256 - (2 << station), () -> x.stranded(0, 0));
            due("to the end " + station, 255 - (1 << station), () -> x.stranded(0, station));
        }
        x.addLift(0, 7, 0, 1, 1, 10);
        due("none", 0, () -> x.stranded(0, 7));
        x.setWind(9);
        due("held", 127, () -> x.stranded(0, 7));
    }

    private static void wrongNumbers() {
        SlopeOperator x = Areas.full();
        String there = "Throws `IndexOutOfBoundsException` if there is no such guest or station";
        for (int guest : new int[] {-1, 16, LEAST, GREATEST}) {
            sentence("25", there);
            refused("guest " + guest, INDEX, () -> x.duration(guest, 0, 0));
            sentence("26", there);
            refused("guest " + guest, INDEX, () -> x.firstPart(guest, 0, 0));
            sentence("27", there);
            refused("guest " + guest, INDEX, () -> x.reachable(guest, 0));
            sentence("28", there);
            refused("guest " + guest, INDEX, () -> x.stranded(guest, 0));
        }
        for (int station : new int[] {-1, 8, LEAST, GREATEST}) {
            sentence("25", there);
            refused("from " + station, INDEX, () -> x.duration(15, station, 0));
            refused("to " + station, INDEX, () -> x.duration(15, 0, station));
            refused("both " + station, INDEX, () -> x.duration(15, station, station));
            sentence("26", there);
            refused("from " + station, INDEX, () -> x.firstPart(15, station, 0));
            refused("to " + station, INDEX, () -> x.firstPart(15, 0, station));
            refused("both " + station, INDEX, () -> x.firstPart(15, station, station));
            sentence("27", there);
            refused("station " + station, INDEX, () -> x.reachable(15, station));
            sentence("28", there);
            refused("station " + station, INDEX, () -> x.stranded(15, station));
        }
        due("guest 15 and station 7", 0, () -> x.duration(15, 7, 7));
    }
}
