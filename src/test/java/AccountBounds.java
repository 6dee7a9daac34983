/** Sentences about accounts, and about the promises 29 to 34. */
final class AccountBounds extends Bounds {
    private AccountBounds() {
    }

    static void ask() {
        accounts();
        emptyCabins();
        liftAccount();
        guestAccount();
        pisteAccount();
        audit();
        busiest();
        load();
    }

    private static void accounts() {
        sentence("Accounts", "For each lift there are the guests who rode and the cabins that departed, with the numbers 0");
        SlopeOperator x = Areas.waiting(4, 3, 2, 2, 20);
        x.addPiste(1, 0, 1, 1);
        due("nothing yet", "0 0 0 0 0 0", () -> accounts(x));
        x.advance(1);
        due("no cabin departed", "0 0 0 0 0 0", () -> accounts(x));
        x.advance(1);
        due("the first cabin departs", "2 1 1 0 0 0", () -> accounts(x));
        x.advance(2);
        due("the second cabin departs", "3 2 1 0 0 0", () -> accounts(x));
        x.ski(0, 0);
        due("a piste is begun", "3 2 1 1 0 1", () -> accounts(x));
        Told.answer(() -> x.ski(0, 0));
        due("a refusal", "3 2 1 1 1 1", () -> accounts(x));
        x.advance(1);
        x.queue(0, 0);
        x.advance(1);
        due("a third cabin", "4 3 2 1 1 1", () -> accounts(x));
        x.endDay();
        due("the end of a day", "4 3 2 1 1 1", () -> accounts(x));
    }

    /** The lift's, those of guest 0, the piste's. */
    private static String accounts(SlopeOperator x) {
        return x.liftAccount(0, 0) + " " + x.liftAccount(0, 1) + " " + x.guestAccount(0, 0) + " " + x.guestAccount(0, 1)
                + " " + x.guestAccount(0, 2) + " " + x.pisteAccount(0);
    }

    private static void emptyCabins() {
        sentence("More precisely", "Cabins without guests count.");
        SlopeOperator x = Areas.waiting(1, 0, 1, 8, 10);
        x.advance(50);
        due("50 of them", 50, () -> x.liftAccount(0, 1));
        due("nobody rode", 0, () -> x.liftAccount(0, 0));
        due("the mean", 0.0, () -> x.load(0));
        x.setWind(9);
        x.advance(50);
        due("none while it is held", 50, () -> x.liftAccount(0, 1));
    }

    private static void liftAccount() {
        sentence("29", "Returns an account of a lift.", "- `account`: 0 for the guests who rode, 1 for the cabins",
                "Returns the number.");
        SlopeOperator x = Areas.waiting(16, 10, 1, 3, 10);
        for (int i : range(1, 4)) {
            x.advance(1);
            due("the guests who rode", Math.min(10, 3 * i), () -> x.liftAccount(0, 0));
            due("the cabins", i, () -> x.liftAccount(0, 1));
        }
        sentence("29", "Throws `IndexOutOfBoundsException` if there is no such lift");
        for (int lift : new int[] {-1, 1, LEAST, GREATEST}) {
            refused("lift " + lift, INDEX, () -> x.liftAccount(lift, 0));
        }
        refused("lift 6 of 6", INDEX, () -> Areas.full().liftAccount(6, 1));
        due("lift 5 of 6", 0, () -> Areas.full().liftAccount(5, 1));
        sentence("29", "Throws `IllegalArgumentException` if account is not 0 or 1");
        for (int account : new int[] {-1, 2, LEAST, GREATEST}) {
            refused("account " + account, ARGUMENT, () -> x.liftAccount(0, account));
        }
    }

    private static void guestAccount() {
        sentence("30", "Returns an account of a guest.", "- `account`: 0 for the rides, 1 for the pistes, 2 for the refusals",
                "Returns the number.");
        SlopeOperator x = Areas.waiting(16, 0, 1, 8, 10);
        x.addPiste(1, 0, 1, 1);
        for (int i : range(1, 5)) {
            x.queue(15, 0);
            x.advance(2);
            x.ski(15, 0);
            x.advance(1);
            for (int again : range(1, 2)) {
                refused("a refusal", REFUSED, () -> x.ski(15, 0));
            }
            due("rides", i, () -> x.guestAccount(15, 0));
            due("pistes", i, () -> x.guestAccount(15, 1));
            due("refusals", 2 * i, () -> x.guestAccount(15, 2));
            due("none of another guest", 0, () -> x.guestAccount(14, 2));
        }
        sentence("30", "Throws `IndexOutOfBoundsException` if there is no such guest");
        for (int guest : new int[] {-1, 16, LEAST, GREATEST}) {
            refused("guest " + guest, INDEX, () -> x.guestAccount(guest, 0));
        }
        sentence("30", "Throws `IllegalArgumentException` if account is not 0 to 2");
        for (int account : new int[] {-1, 3, LEAST, GREATEST}) {
            refused("account " + account, ARGUMENT, () -> x.guestAccount(15, account));
        }
    }

    private static void pisteAccount() {
        sentence("31", "Returns how many guests began a piste.", "Returns the number.");
        for (int wear : new int[] {0, 1, 15, 16, 17, 32}) {
            SlopeOperator x = Areas.worn(wear);
            due("" + wear, wear, () -> x.pisteAccount(0));
            due("the other piste", wear > 16 ? 16 : 0, () -> x.pisteAccount(1));
            x.open(0, false);
            x.groom(0);
            x.advance(7);
            due("grooming leaves it " + wear, wear, () -> x.pisteAccount(0));
        }
        sentence("31", "Throws `IndexOutOfBoundsException` if there is no such piste");
        SlopeOperator x = Areas.full();
        for (int piste : new int[] {-1, 10, LEAST, GREATEST}) {
            refused("piste " + piste, INDEX, () -> x.pisteAccount(piste));
        }
        due("piste 9 of 10", 0, () -> x.pisteAccount(9));
    }

    private static void audit() {
        sentence("32", "Returns the difference between the sums of the accounts of rides of all lifts and of all guests",
                "Returns the sum of both amounts, which is 0 if the accounts add up.");
        due("a new object", 0, () -> new SlopeOperator().audit());
        due("a full area", 0, () -> Areas.full().audit());
        SlopeOperator x = new SlopeOperator();
        for (int lift : range(0, 5)) {
            x.addLift(lift % 2, 1 - lift % 2, 0, 1, 2, 10);
        }
        for (int piste : range(0, 9)) {
            x.addPiste(piste % 2, 1 - piste % 2, 1, 1);
        }
        addGuests(x, 16, 0, 3);
        for (int guest : range(6, 15)) {
            x.queue(guest, guest % 3 * 2);
        }
        for (int guest : range(0, 5)) {
            x.ski(guest, guest % 5 * 2);
        }
        due("with some in queues and some on pistes", 0, x::audit);
        for (int tick : range(1, 6)) {
            x.advance(1);
            due("behind tick " + tick, 0, x::audit);
        }
        x.ski(15, 1);
        due("behind a piste that was begun by one who rode", 0, x::audit);
        due("all sums", 10, () -> x.liftAccount(0, 0) + x.liftAccount(2, 0) + x.liftAccount(4, 0));
        x.undo();
        due("behind undo", 0, x::audit);
        x.endDay();
        due("behind a day", 0, x::audit);
        x.clear();
        due("behind clear", 0, x::audit);
    }

    private static void busiest() {
        sentence("33", "Throws `NoSuchElementException` if no guest rode");
        refused("no lift", NONE, () -> new SlopeOperator().busiest());
        SlopeOperator x = new SlopeOperator();
        for (int lift : range(0, 5)) {
            x.addLift(0, 1, 0, 6, 8, 90);
        }
        addGuests(x, 16, 0, 1);
        x.queue(0, 5);
        x.advance(5);
        refused("a tick before the first cabin", NONE, x::busiest);
        sentence("33", "Returns the lift with the most guests who rode; of several, the one with the lowest number.",
                "Returns the lift.");
        x.advance(1);
        due("the last lift alone", 5, x::busiest);
        x.queue(1, 3);
        x.advance(6);
        due("the lower of two", 3, x::busiest);
        x.queue(2, 4);
        x.advance(6);
        due("the lowest of three", 3, x::busiest);
        x.queue(3, 5);
        x.advance(6);
        due("the most", 5, x::busiest);
        x.queue(4, 0);
        x.queue(5, 0);
        x.advance(6);
        due("the lowest of all", 0, x::busiest);
        for (int guest : range(6, 13)) {
            x.queue(guest, 1);
        }
        x.advance(6);
        due("a full cabin", 1, x::busiest);
        x.undo();
        due("undone", 0, x::busiest);
        SlopeOperator away = Areas.waiting(1, 1, 1, 1, 10);
        away.advance(1);
        away.endDay();
        due("behind a day", 0, away::busiest);
    }

    private static void load() {
        sentence("34", "Returns the mean number of guests who rode in a cabin of a lift", "Returns the mean.");
        for (int waiting : range(0, 10)) {
            for (int cabins : range(1, 3)) {
                SlopeOperator x = Areas.waiting(10, waiting, 1, 8, 90);
                x.advance(cabins);
                int rode = cabins == 1 ? Math.min(waiting, 8) : waiting;
                due(waiting + " waited, " + cabins + " cabins", (double) rode / cabins, () -> x.load(0));
            }
        }
        sentence("34", "Throws `ArithmeticException` if no cabin departed");
        SlopeOperator x = Areas.waiting(1, 1, 6, 8, 90);
        refused("at first", ArithmeticException.class, () -> x.load(0));
        x.advance(5);
        refused("a tick before the first one", ArithmeticException.class, () -> x.load(0));
        x.advance(1);
        due("the first one", 1.0, () -> x.load(0));
        x.addLift(0, 1, 0, 1, 1, 10);
        refused("another lift", ArithmeticException.class, () -> x.load(1));
        sentence("34", "Throws `IndexOutOfBoundsException` if there is no such lift");
        for (int lift : new int[] {-1, 2, LEAST, GREATEST}) {
            refused("lift " + lift, INDEX, () -> x.load(lift));
        }
        refused("lift 6 of 6", INDEX, () -> Areas.full().load(6));
        refused("lift 5 of 6", ArithmeticException.class, () -> Areas.full().load(5));
    }
}
