/** Sentences about the area, the wind and the time, and about the promises 1 to 7 and 10. */
final class AreaBounds extends Bounds {
    private interface AtStation {
        int answer(SlopeOperator x, int station);
    }

    private AreaBounds() {
    }

    static void ask() {
        stations();
        countsOfLiftsAndPistes();
        numbersOfLifts();
        ridesAndExposures();
        numbersOfPistes();
        wind();
        force();
        time();
        daysAndTicks();
        newObject();
        clear();
        addLift();
        addPiste();
        setWind();
        lift();
        piste();
        count();
    }

    private static void stations() {
        sentence("Area", "There are 8 stations, numbered from 0.");
        stations("lower of addLift", 0, (x, s) -> x.addLift(s, 3, 0, 1, 1, 10));
        stations("upper of addLift", 0, (x, s) -> x.addLift(3, s, 0, 1, 1, 10));
        stations("from of addPiste", 0, (x, s) -> x.addPiste(s, 3, 1, 1));
        stations("to of addPiste", 0, (x, s) -> x.addPiste(3, s, 1, 1));
        stations("addGuest", 1, (x, s) -> x.addGuest(s, 1, 0, 0, 0));
        stations("from of duration", "NoSuchElementException", (x, s) -> x.duration(0, s, 3));
        stations("to of duration", "NoSuchElementException", (x, s) -> x.duration(0, 3, s));
        stations("both of duration", 0, (x, s) -> x.duration(0, s, s));
        stations("from of firstPart", "NoSuchElementException", (x, s) -> x.firstPart(0, s, 3));
        stations("to of firstPart", "NoSuchElementException", (x, s) -> x.firstPart(0, 3, s));
        for (int s : range(0, 7)) {
            due("reachable " + s, 1 << s, () -> withGuest().reachable(0, s));
            due("stranded " + s, 255 - (1 << s), () -> withGuest().stranded(0, s));
        }
        for (int s : new int[] {-1, 8, LEAST, GREATEST}) {
            refused("reachable " + s, INDEX, () -> withGuest().reachable(0, s));
            refused("stranded " + s, INDEX, () -> withGuest().stranded(0, s));
        }
    }

    private static SlopeOperator withGuest() {
        SlopeOperator x = new SlopeOperator();
        x.addGuest(2, 1, 15, 0, 1000);
        return x;
    }

    private static void stations(String name, Object want, AtStation call) {
        for (int s : new int[] {0, 7}) {
            due(name + " at " + s, want, () -> call.answer(withGuest(), s));
        }
        for (int s : new int[] {-1, 8, LEAST, GREATEST}) {
            refused(name + " at " + s, INDEX, () -> call.answer(withGuest(), s));
        }
    }

    private static void countsOfLiftsAndPistes() {
        sentence("Area", "There are at most 6 lifts and at most 10 pistes");
        SlopeOperator x = new SlopeOperator();
        for (int k : range(0, 5)) {
            due("lift", k, () -> x.addLift(k, 7, 0, 1, 1, 10));
        }
        refused("lift 6", STATE, () -> x.addLift(6, 7, 0, 1, 1, 10));
        due("6 lifts do not stand in the way of pistes", 0, () -> x.addPiste(0, 7, 1, 1));
        for (int k : range(1, 9)) {
            due("piste", k, () -> x.addPiste(k % 7, 7, 1, 1));
        }
        refused("piste 10", STATE, () -> x.addPiste(3, 7, 1, 1));
        for (int k : range(0, 5)) {
            due("lifts are numbered as they were added", k, () -> x.lift(k, 0));
        }
        for (int k : range(0, 9)) {
            due("pistes are numbered as they were added", k % 7, () -> x.piste(k, 0));
        }
        x.undo();
        due("piste 9 once more", 9, () -> x.addPiste(2, 7, 1, 1));
        refused("piste 10 still not", STATE, () -> x.addPiste(3, 7, 1, 1));
        SlopeOperator y = new SlopeOperator();
        for (int k : range(0, 9)) {
            y.addPiste(0, 1, 1, 1);
        }
        due("10 pistes do not stand in the way of lifts", 0, () -> y.addLift(0, 1, 0, 1, 1, 10));
        due("a refused lift takes no number", 1, () -> {
            Told.answer(() -> y.addLift(0, 0, 0, 1, 1, 10));
            return y.addLift(0, 1, 0, 1, 1, 10);
        });
    }

    private static void numbersOfLifts() {
        sentence("Area", "A lift leads from its lower station to another one");
        for (int s : range(0, 7)) {
            refused("from a station to itself", ARGUMENT, () -> new SlopeOperator().addLift(s, s, 0, 1, 1, 10));
            SlopeOperator x = new SlopeOperator();
            int next = (s + 1) % 8;
            due("to the next one", 0, () -> x.addLift(s, next, 0, 1, 1, 10));
            due("and back", 1, () -> x.addLift(next, s, 0, 1, 1, 10));
            due("its lower station", s, () -> x.lift(0, 0));
            due("its upper station", next, () -> x.lift(0, 1));
            due("the lower one of the other", next, () -> x.lift(1, 0));
            due("the upper one of the other", s, () -> x.lift(1, 1));
        }
        numbersOfLifts("zone", 2, 0, 3);
        numbersOfLifts("interval", 3, 1, 6);
        numbersOfLifts("capacity", 4, 1, 8);
    }

    private static void numbersOfLifts(String name, int what, int least, int greatest) {
        for (int number : range(least, greatest)) {
            SlopeOperator x = new SlopeOperator();
            due(name + " " + number, 0, () -> liftWith(x, what, number));
            due(name + " " + number + " is told", number, () -> x.lift(0, what));
        }
        for (int number : new int[] {least - 1, greatest + 1, -least - 1, LEAST, GREATEST}) {
            SlopeOperator x = new SlopeOperator();
            refused(name + " " + number, ARGUMENT, () -> liftWith(x, what, number));
            due(name + " " + number + " adds none", 0, () -> x.count(0));
        }
    }

    private static int liftWith(SlopeOperator x, int what, int number) {
        int[] p = {0, 1, 1, 2, 3, 41};
        p[what] = number;
        return x.addLift(p[0], p[1], p[2], p[3], p[4], p[5]);
    }

    private static void ridesAndExposures() {
        sentence("3", "- `ride`: 10 times the ride plus the exposure");
        for (int number : range(-40, 140)) {
            boolean isRight = number >= 10 && number < 100 && number % 10 < 4;
            SlopeOperator x = new SlopeOperator();
            due("" + number, isRight ? "0" : "IllegalArgumentException", () -> Told.answer(() -> liftWith(x, 5, number)));
            due(number + " adds a lift or none", isRight ? 1 : 0, () -> x.count(0));
            if (isRight) {
                due("the ride of " + number, number / 10, () -> x.lift(0, 5));
                due("the exposure of " + number, number % 10, () -> x.lift(0, 6));
            }
        }
        for (int number : new int[] {LEAST, GREATEST, LEAST + 1, 1010, -1010}) {
            refused("" + number, ARGUMENT, () -> liftWith(new SlopeOperator(), 5, number));
        }
    }

    private static void numbersOfPistes() {
        sentence("Area", "A piste leads from a station to another one");
        for (int s : range(0, 7)) {
            refused("from a station to itself", ARGUMENT, () -> new SlopeOperator().addPiste(s, s, 1, 1));
            SlopeOperator x = new SlopeOperator();
            due("to another one", 0, () -> x.addPiste(s, 7 - s, 1, 1));
            due("where it begins", s, () -> x.piste(0, 0));
            due("to which it leads", 7 - s, () -> x.piste(0, 1));
        }
        for (int number : range(-1, 11)) {
            SlopeOperator x = new SlopeOperator();
            boolean isDifficulty = number >= 1 && number <= 3;
            due("difficulty " + number, isDifficulty ? "0" : "IllegalArgumentException",
                    () -> Told.answer(() -> x.addPiste(0, 1, number, 5)));
            due("difficulty " + number + " is told", isDifficulty ? "" + number : "IndexOutOfBoundsException",
                    () -> Told.answer(() -> x.piste(0, 2)));
            SlopeOperator y = new SlopeOperator();
            boolean isLength = number >= 1 && number <= 9;
            due("length " + number, isLength ? "0" : "IllegalArgumentException",
                    () -> Told.answer(() -> y.addPiste(0, 1, 2, number)));
            due("length " + number + " is told", isLength ? "" + number : "IndexOutOfBoundsException",
                    () -> Told.answer(() -> y.piste(0, 3)));
        }
        for (int number : new int[] {LEAST, GREATEST}) {
            refused("difficulty " + number, ARGUMENT, () -> new SlopeOperator().addPiste(0, 1, number, 5));
            refused("length " + number, ARGUMENT, () -> new SlopeOperator().addPiste(0, 1, 2, number));
        }
    }

    private static void wind() {
        sentence("Wind", "The wind is a number from 0 to 9, at first 0.");
        sentence("5", "Sets the wind.", "Throws `IllegalArgumentException` if wind is out of range");
        SlopeOperator x = new SlopeOperator();
        due("at first", 0, () -> x.count(3));
        for (int wind : range(0, 9)) {
            due("wind " + wind, 0, () -> x.setWind(wind));
            due("wind " + wind + " is told", wind, () -> x.count(3));
        }
        for (int wind : new int[] {-1, 10, LEAST, GREATEST}) {
            refused("wind " + wind, ARGUMENT, () -> x.setWind(wind));
            due("wind " + wind + " changes nothing", 9, () -> x.count(3));
        }
        SlopeOperator y = new SlopeOperator();
        refused("by a text", ARGUMENT, () -> readText(y, "w/;"));
        refused("by a text too", ARGUMENT, () -> readText(y, "w:;"));
        due("0 by a text", 1, () -> readText(y, "w0;"));
        due("9 by a text", 1, () -> readText(y, "w9;"));
    }

    private static void force() {
        sentence("Wind", "The force at a lift is the wind plus its exposure.", "A lift runs if the force is less than 6");
        String[] states = {"0000001112", "0000011122", "0000111222", "0001112222"};
        for (int exposure : range(0, 3)) {
            for (int wind : range(0, 9)) {
                SlopeOperator x = new SlopeOperator();
                x.addLift(0, 1, 0, 6, 1, 90 + exposure);
                x.setWind(wind);
                int state = states[exposure].charAt(wind) - '0';
                due("force " + wind + " + " + exposure, state, () -> x.lift(0, 7));
                x.advance(1);
                due("its clock in the force " + wind + " + " + exposure, 2 - state, () -> x.lift(0, 8));
            }
        }
    }

    private static void time() {
        sentence("Time", "There is a tick number and a day number, both at first 0.");
        SlopeOperator x = new SlopeOperator();
        due("the tick number", 0, () -> x.count(4));
        due("the day number", 0, () -> x.count(5));
        sentence("Time", "All that is told of ticks below takes place in each tick");
        for (int ticks : range(1, 12)) {
            SlopeOperator once = Areas.busy();
            SlopeOperator often = Areas.busy();
            int come = 0;
            for (int i = 0; i < ticks; i++) {
                come += often.advance(1);
            }
            due(ticks + " ticks at once", come, () -> once.advance(ticks));
            due("leave the same as one by one", Told.numbers(often), () -> Told.numbers(once));
            due("the tick number", 5 + ticks, () -> once.count(4));
        }
    }

    private static void daysAndTicks() {
        sentence("Time", "When a day ends, the tick number becomes 0, and the day number increases by 1.");
        SlopeOperator x = new SlopeOperator();
        x.endDay();
        due("the tick number stays 0", 0, () -> x.count(4));
        due("the day number", 1, () -> x.count(5));
        advanceBy(x, 1000);
        x.endDay();
        due("the tick number behind 1000", 0, () -> x.count(4));
        due("the day number behind it", 2, () -> x.count(5));
        due("ticks can pass again", 0, () -> x.advance(50));
        due("from 0 on", 50, () -> x.count(4));
        due("and leave the day number", 2, () -> x.count(5));
    }

    private static void newObject() {
        sentence("1", "Creates an area without lifts, pistes and guests.");
        SlopeOperator x = new SlopeOperator();
        due("all numbers", "0 0 0 0 0 0 0 0 0 0 0 0 ", () -> Told.numbers(x));
        refused("no lift", INDEX, () -> x.lift(0, 0));
        refused("no piste", INDEX, () -> x.piste(0, 0));
        refused("no guest", INDEX, () -> x.guest(0, 0));
        refused("no reason", NONE, x::reason);
        refused("no error position", NONE, x::errorPosition);
        refused("no change", NONE, x::undo);
        refused("nothing saved", STATE, x::restore);
        refused("nobody rode", NONE, x::busiest);
        due("accounts", 0, x::audit);
        due("an empty input", 1, () -> x.append('w'));
    }

    private static void clear() {
        sentence("2", "Removes all lifts, pistes and guests, and makes the wind, the tick number and the day number 0.",
                "Returns the number of guests that there were.");
        SlopeOperator x = Areas.full();
        x.endDay();
        x.setWind(7);
        x.advance(3);
        due("16 guests, all away", 16, x::clear);
        due("no numbers are left", Told.numbers(new SlopeOperator()), () -> Told.numbers(x));
        due("none once more", 0, x::clear);
        for (int k : range(0, 5)) {
            due("6 lifts again", k, () -> x.addLift(0, 1, 0, 1, 1, 10));
        }
        for (int k : range(0, 9)) {
            due("10 pistes again", k, () -> x.addPiste(0, 1, 1, 1));
        }
        for (int k : range(0, 15)) {
            due("16 guests again", k, () -> x.addGuest(0, 1, 15, 0, 1));
        }
        SlopeOperator y = new SlopeOperator();
        for (int k : range(0, 5)) {
            y.addLift(0, 1, 0, 1, 1, 10);
        }
        for (int k : range(0, 9)) {
            y.addPiste(0, 1, 1, 1);
        }
        for (int k : range(0, 15)) {
            y.addGuest(0, 1, 15, 0, 1);
        }
        due("with nothing of the old ones", Told.numbers(y), () -> Told.numbers(x));
        SlopeOperator used = Areas.used();
        used.clear();
        due("with nothing of old accounts, clocks, rests and refusals", Told.numbers(Areas.other(new SlopeOperator())),
                () -> Told.numbers(Areas.other(used)));
        sentence("2", "The reason, the input, the error position and what was saved stay.");
        SlopeOperator z = Areas.busy();
        z.clear();
        due("the reason", 2, z::reason);
        due("the error position", 2, z::errorPosition);
        due("the input", 5, () -> z.append('9'));
        due("what was saved", 8, z::restore);
        SlopeOperator none = new SlopeOperator();
        none.clear();
        due("nothing of a new object", Told.everything(SlopeOperator::new), () -> Told.everything(AreaBounds::cleared));
    }

    private static SlopeOperator cleared() {
        SlopeOperator x = new SlopeOperator();
        x.addLift(0, 1, 0, 1, 1, 10);
        x.setWind(3);
        x.clear();
        return x;
    }

    private static void addLift() {
        sentence("3", "Adds a lift.", "Returns the number of the lift.");
        SlopeOperator x = new SlopeOperator();
        due("the first", 0, () -> x.addLift(7, 0, 3, 6, 8, 93));
        due("all its numbers", "1 0 0 0 0 0 0 0 0 0 0 0 \nlift 0: 7 0 3 6 8 9 3 0 0 0 0 0 0", () -> Told.numbers(x));
        sentence("3", "Throws `IndexOutOfBoundsException` if one of the stations does not exist");
        for (int[] s : new int[][] {{-1, 0}, {8, 0}, {0, -1}, {0, 8}, {8, 8}, {-1, -1}}) {
            refused("" + s[0] + " to " + s[1], INDEX, () -> x.addLift(s[0], s[1], 0, 1, 1, 10));
        }
        sentence("3", "Throws `IllegalArgumentException` if both stations are the same, or another number is out of");
        refused("the same", ARGUMENT, () -> x.addLift(4, 4, 0, 1, 1, 10));
        refused("the same, with all the rest out of range", ARGUMENT, () -> x.addLift(4, 4, 4, 0, 0, 0));
        sentence("3", "Throws `IllegalStateException` if there are 6 lifts");
        for (int k : range(1, 5)) {
            due("a lift", k, () -> x.addLift(0, 1, 0, 1, 1, 10));
        }
        refused("the seventh", STATE, () -> x.addLift(0, 1, 0, 1, 1, 10));
        due("the first is as it was", 93, () -> 10 * x.lift(0, 5) + x.lift(0, 6));
        x.clear();
        due("none is left then", 0, () -> x.addLift(0, 1, 0, 1, 1, 10));
    }

    private static void addPiste() {
        sentence("4", "Adds a piste, which is open.", "Returns the number of the piste.");
        SlopeOperator x = new SlopeOperator();
        due("the first", 0, () -> x.addPiste(7, 0, 3, 9));
        due("all its numbers", "0 1 0 0 0 0 0 0 0 0 0 1 \npiste 0: 7 0 3 9 0 0 0 0 0", () -> Told.numbers(x));
        sentence("4", "Throws `IndexOutOfBoundsException` if one of the stations does not exist");
        for (int[] s : new int[][] {{-1, 0}, {8, 0}, {0, -1}, {0, 8}, {8, 8}, {-1, -1}}) {
            refused("" + s[0] + " to " + s[1], INDEX, () -> x.addPiste(s[0], s[1], 1, 1));
        }
        sentence("4", "Throws `IllegalArgumentException` if both stations are the same, or another number is out of");
        refused("the same", ARGUMENT, () -> x.addPiste(4, 4, 1, 1));
        refused("the same, with all the rest out of range", ARGUMENT, () -> x.addPiste(4, 4, 0, 10));
        sentence("4", "Throws `IllegalStateException` if there are 10 pistes");
        for (int k : range(1, 9)) {
            due("a piste", k, () -> x.addPiste(0, 1, 1, 1));
        }
        refused("the eleventh", STATE, () -> x.addPiste(0, 1, 1, 1));
        due("the first is as it was", 9, () -> x.piste(0, 3));
        x.clear();
        due("none is left then", 0, () -> x.addPiste(0, 1, 1, 1));
    }

    private static void setWind() {
        sentence("5", "Returns the set of lifts that are held then.");
        SlopeOperator x = new SlopeOperator();
        for (int exposure : new int[] {3, 0, 1, 2, 3, 0}) {
            x.addLift(0, 1, 0, 1, 1, 10 + exposure);
        }
        int[] held = {0, 0, 0, 0, 0, 0, 17, 25, 29, 63};
        for (int wind : range(0, 9)) {
            due("wind " + wind, held[wind], () -> x.setWind(wind));
        }
        due("fewer than before", 0, () -> x.setWind(5));
        due("all at once", 63, () -> x.setWind(9));
        due("without lifts", 0, () -> new SlopeOperator().setWind(9));
    }

    private static void lift() {
        sentence("6", "Returns a number of a lift.", "- `what`: 0 for its lower, 1 for its upper station",
                "Returns the number.");
        SlopeOperator x = Areas.waiting(16, 10, 6, 8, 93);
        x.addLift(3, 2, 3, 1, 8, 10);
        int[] first = {0, 1, 0, 6, 8, 9, 3, 0, 0, 10, 0};
        int[] second = {3, 2, 3, 1, 8, 1, 0, 0, 0, 0, 0};
        for (int what : range(0, 10)) {
            due("number " + what, first[what], () -> x.lift(0, what));
            due("number " + what + " of the second", second[what], () -> x.lift(1, what));
        }
        x.advance(5);
        x.setWind(3);
        x.advance(1);
        due("the greatest clock", 11, () -> x.lift(0, 8));
        x.advance(1);
        due("2 are left in the queue", 2, () -> x.lift(0, 9));
        due("8 ride", 8, () -> x.lift(0, 10));
        due("nobody rides on the other", 0, () -> x.lift(1, 10));
        SlopeOperator y = Areas.waiting(16, 8, 1, 8, 90);
        y.advance(1);
        for (int guest : range(8, 15)) {
            y.queue(guest, 0);
        }
        y.advance(1);
        due("all 16 ride", 16, () -> y.lift(0, 10));
        due("the empty queue", 0, () -> y.lift(0, 9));
        sentence("6", "Throws `IndexOutOfBoundsException` if there is no such lift");
        refused("lift 2 of 2", INDEX, () -> x.lift(2, 0));
        refused("lift -1", INDEX, () -> x.lift(-1, 0));
        refused("lift 6 of 6", INDEX, () -> Areas.full().lift(6, 0));
        due("lift 5 of 6", 5, () -> Areas.full().lift(5, 0));
        refused("a great one", INDEX, () -> x.lift(GREATEST, 0));
        refused("a small one", INDEX, () -> x.lift(LEAST, 0));
        sentence("6", "Throws `IllegalArgumentException` if what is not 0 to 10");
        for (int what : new int[] {-1, 11, LEAST, GREATEST}) {
            refused("what " + what, ARGUMENT, () -> x.lift(0, what));
        }
    }

    private static void piste() {
        sentence("7", "Returns a number of a piste.", "- `what`: 0 for the station where it begins", "Returns the number.");
        SlopeOperator x = new SlopeOperator();
        x.addPiste(7, 0, 1, 9);
        x.addPiste(6, 5, 3, 1);
        addGuests(x, 16, 7, 1);
        for (int guest : range(0, 15)) {
            x.ski(guest, 0);
        }
        int[] first = {7, 0, 1, 9, 0, 16, 0, 16};
        int[] second = {6, 5, 3, 1, 0, 0, 0, 0};
        for (int what : range(0, 7)) {
            due("number " + what, first[what], () -> x.piste(0, what));
            due("number " + what + " of the second", second[what], () -> x.piste(1, what));
        }
        x.open(0, false);
        due("the state of a closed one", 1, () -> x.piste(0, 4));
        due("no rest of a closed one", 0, () -> x.piste(0, 6));
        x.groom(0);
        due("the state of a groomed one", 2, () -> x.piste(0, 4));
        due("the rest of a groomed one", 4, () -> x.piste(0, 6));
        x.advance(3);
        due("its last rest", 1, () -> x.piste(0, 6));
        x.advance(1);
        due("no rest of an open one", 0, () -> x.piste(0, 6));
        x.advance(5);
        due("nobody is on it any more", 0, () -> x.piste(0, 7));
        sentence("7", "Throws `IndexOutOfBoundsException` if there is no such piste");
        refused("piste 2 of 2", INDEX, () -> x.piste(2, 0));
        refused("piste -1", INDEX, () -> x.piste(-1, 0));
        refused("piste 10 of 10", INDEX, () -> Areas.full().piste(10, 0));
        due("piste 9 of 10", 3, () -> Areas.full().piste(9, 0));
        refused("a great one", INDEX, () -> x.piste(GREATEST, 0));
        refused("a small one", INDEX, () -> x.piste(LEAST, 0));
        sentence("7", "Throws `IllegalArgumentException` if what is not 0 to 7");
        for (int what : new int[] {-1, 8, LEAST, GREATEST}) {
            refused("what " + what, ARGUMENT, () -> x.piste(0, what));
        }
    }

    private static void count() {
        sentence("10", "Returns a count.", "- `what`: 0 for lifts, 1 for pistes, 2 for guests", "Returns the count.");
        due("all that there can be", "6 10 16 0 1000 0 4 10 0 1 1 8 ", () -> Told.numbers(Areas.full()).split("\n")[0]);
        SlopeOperator x = Areas.waiting(16, 0, 1, 8, 90);
        due("all at stations", 16, () -> x.count(6));
        x.addPiste(0, 1, 1, 9);
        x.save();
        for (int guest : range(0, 9)) {
            x.queue(guest, 0);
        }
        due("10 in queues", 10, () -> x.count(7));
        due("the others at stations", 6, () -> x.count(6));
        x.advance(2);
        due("10 ride", 10, () -> x.count(8));
        due("the queue is empty", 0, () -> x.count(7));
        x.restore();
        for (int guest : range(0, 15)) {
            x.ski(guest, 0);
        }
        due("all ski", 16, () -> x.count(9));
        x.endDay();
        due("all are away", 16, () -> x.count(10));
        due("nobody skis", 0, () -> x.count(9));
        due("there are still 16", 16, () -> x.count(2));
        x.open(0, false);
        due("no open piste", 0, () -> x.count(11));
        x.groom(0);
        due("a groomed one is not open", 0, () -> x.count(11));
        sentence("10", "Throws `IllegalArgumentException` if what is not 0 to 11");
        for (int what : new int[] {-1, 12, LEAST, GREATEST}) {
            refused("what " + what, ARGUMENT, () -> x.count(what));
        }
    }
}
