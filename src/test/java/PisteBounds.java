/** Sentences about pistes, and about the promises 8, 9, 14 and 17. */
final class PisteBounds extends Bounds {
    private PisteBounds() {
    }

    static void ask() {
        newPistes();
        wearCloses();
        wearOfOthers();
        grooming();
        restsOfSkiers();
        toTheEnd();
        wearOfSkiers();
        whatBecomesOfAPiste();
        open();
        openWorn();
        openGroomed();
        groom();
        groomingTicks();
        nextTickAlready();
        ski();
        whyNotSki();
    }

    private static void newPistes() {
        sentence("Pistes", "A piste has a wear, at first 0, and a state: 0 open; 1 closed; 2 groomed.");
        SlopeOperator x = new SlopeOperator();
        x.addPiste(0, 1, 3, 9);
        due("the wear at first", 0, () -> x.piste(0, 5));
        due("open", 0, () -> x.piste(0, 4));
        x.open(0, false);
        due("closed", 1, () -> x.piste(0, 4));
        x.groom(0);
        due("groomed", 2, () -> x.piste(0, 4));
        x.advance(1);
        due("open again", 0, () -> x.piste(0, 4));
    }

    private static void wearCloses() {
        sentence("Pistes", "If the wear of an open piste is 20 or more at the end of a tick, it is closed.");
        for (int wear : range(17, 23)) {
            SlopeOperator x = Areas.worn(wear);
            due("the wear", wear, () -> x.piste(0, 5));
            due("before the end of the tick, wear " + wear, 0, () -> x.piste(0, 4));
            due("a guest can still ski it, wear " + wear, 0, () -> x.whyNotSki(15, 0));
            x.advance(1);
            due("at its end, wear " + wear, wear < 20 ? 0 : 1, () -> x.piste(0, 4));
            due("the wear stays " + wear, wear, () -> x.piste(0, 5));
            due("why not ski, wear " + wear, wear < 20 ? 0 : 6, () -> x.whyNotSki(15, 0));
        }
        SlopeOperator y = Areas.worn(19);
        y.advance(1);
        y.ski(15, 0);
        due("20 behind a tick with 19", 0, () -> y.piste(0, 4));
        y.advance(1);
        due("closed behind the tick with 20", 1, () -> y.piste(0, 4));
        SlopeOperator z = Areas.worn(20);
        z.setWind(9);
        z.endDay();
        due("the end of a day is no end of a tick", 0, () -> z.piste(0, 4));
        z.advance(1);
        due("the first tick of the next day is", 1, () -> z.piste(0, 4));
    }

    private static void wearOfOthers() {
        SlopeOperator closed = Areas.worn(20);
        closed.open(0, false);
        closed.advance(1);
        due("a closed one stays closed", 1, () -> closed.piste(0, 4));
        SlopeOperator groomed = Areas.worn(20);
        groomed.open(0, false);
        groomed.groom(0);
        groomed.advance(1);
        due("a groomed one is no open one", 2, () -> groomed.piste(0, 4));
        due("and goes on", 4, () -> groomed.piste(0, 6));
        SlopeOperator two = Areas.worn(20);
        two.advance(1);
        due("the other piste has its own wear", 16, () -> two.piste(1, 5));
        due("the other piste is open", 0, () -> two.piste(1, 4));
    }

    private static void grooming() {
        sentence("Pistes", "A groomed piste has a rest of ticks, which decreases by 1 in each tick; when it is 0");
        for (int wear : new int[] {0, 4, 5, 19, 20, 25, 32}) {
            SlopeOperator x = Areas.worn(wear);
            x.open(0, false);
            int ticks = x.groom(0);
            for (int left : range(0, ticks - 1)) {
                due("the rest with wear " + wear, ticks - left, () -> x.piste(0, 6));
                due("groomed with wear " + wear, 2, () -> x.piste(0, 4));
                due("the wear stays till the end", wear, () -> x.piste(0, 5));
                x.advance(1);
            }
            due("no rest then", 0, () -> x.piste(0, 6));
            due("open then", 0, () -> x.piste(0, 4));
            due("the wear then", 0, () -> x.piste(0, 5));
            x.advance(9);
            due("open later on", 0, () -> x.piste(0, 4));
        }
        SlopeOperator held = Areas.worn(20);
        held.open(0, false);
        held.groom(0);
        held.setWind(9);
        held.advance(5);
        due("in any wind", 0, () -> held.piste(0, 4));
    }

    private static void restsOfSkiers() {
        sentence("Pistes", "A guest who skis a piste has a rest, at first 2 times its length if the difficulty is greater");
        sentence("14", "Lets a guest begin to ski a piste.", "Returns the rest of the guest.");
        for (int difficulty : range(1, 3)) {
            for (int skill : range(1, 3)) {
                for (int length : range(1, 9)) {
                    SlopeOperator x = new SlopeOperator();
                    x.addPiste(0, 1, difficulty, length);
                    x.addGuest(0, skill, 0, 0, 0);
                    String name = "difficulty " + difficulty + ", skill " + skill + ", length " + length;
                    if (difficulty - skill == 2) {
                        refused(name, REFUSED, () -> x.ski(0, 0));
                        continue;
                    }
                    int rest = difficulty > skill ? 2 * length : length;
                    due(name, rest, () -> x.ski(0, 0));
                    due(name + ", told", rest, () -> x.guest(0, 2));
                    due(name + ", arrival", rest, () -> x.arrival(0));
                    due(name + ", state", 3, () -> x.guest(0, 0));
                }
            }
        }
    }

    private static void toTheEnd() {
        sentence("Pistes", "A guest who skis a piste has a rest, at first 2 times its length if the difficulty is greater");
        for (int length : range(1, 9)) {
            SlopeOperator x = new SlopeOperator();
            x.addPiste(3, 6, 2, length);
            x.addGuest(3, 1, 0, 0, 0);
            x.addGuest(3, 2, 0, 0, 0);
            x.ski(0, 0);
            x.ski(1, 0);
            x.setWind(9);
            for (int tick : range(1, 2 * length)) {
                due("arrivals, length " + length + ", tick " + tick, tick == length || tick == 2 * length ? 1 : 0,
                        () -> x.advance(1));
                due("the longer rest", 2 * length - tick, () -> x.guest(0, 2));
                due("the shorter rest", Math.max(0, length - tick), () -> x.guest(1, 2));
                due("where the one is", tick < 2 * length ? 0 : 6, () -> x.guest(0, 1));
                due("where the other is", tick < length ? 0 : 6, () -> x.guest(1, 1));
                due("the state of the other", tick < length ? 3 : 0, () -> x.guest(1, 0));
            }
        }
    }

    private static void wearOfSkiers() {
        sentence("Pistes", "A guest who begins to ski a piste adds its difficulty to its wear.");
        for (int difficulty : range(1, 3)) {
            SlopeOperator x = new SlopeOperator();
            x.addPiste(0, 1, difficulty, 9);
            x.addPiste(0, 1, difficulty, 9);
            addGuests(x, 16, 0, 3);
            for (int guest : range(0, 15)) {
                x.ski(guest, 0);
                due("difficulty " + difficulty + ", guest " + guest, (guest + 1) * difficulty, () -> x.piste(0, 5));
            }
            due("another piste is not worn", 0, () -> x.piste(1, 5));
            x.advance(9);
            due("no wear by those who come", 16 * difficulty, () -> x.piste(0, 5));
        }
    }

    private static void whatBecomesOfAPiste() {
        sentence("Pistes", "What becomes of a piste does not matter for those who are on it.");
        SlopeOperator x = new SlopeOperator();
        x.addPiste(0, 1, 1, 9);
        addGuests(x, 2, 0, 1);
        x.ski(0, 0);
        x.open(0, false);
        x.advance(1);
        due("closed", 8, () -> x.guest(0, 2));
        x.groom(0);
        x.advance(1);
        due("groomed to its end", 7, () -> x.guest(0, 2));
        x.open(0, false);
        x.groom(0);
        x.open(0, true);
        x.advance(1);
        due("opened while groomed", 6, () -> x.guest(0, 2));
        due("still on it", 1, () -> x.piste(0, 7));
        x.open(0, false);
        due("arrival", 6, () -> x.arrival(0));
        due("comes", 1, () -> x.advance(6));
        SlopeOperator y = Areas.worn(20);
        due("closed for its wear, those on it come all the same", 4, () -> y.advance(1));
        due("closed", 1, () -> y.piste(0, 4));
    }

    private static void open() {
        sentence("8", "Opens or closes a piste.", "Returns the previous state.");
        SlopeOperator x = Areas.worn(0);
        due("open to open", 0, () -> x.open(0, true));
        due("open to closed", 0, () -> x.open(0, false));
        due("closed to closed", 1, () -> x.open(0, false));
        due("closed to open", 1, () -> x.open(0, true));
        due("is open", 0, () -> x.piste(0, 4));
        x.open(0, false);
        x.groom(0);
        due("groomed to closed", 2, () -> x.open(0, false));
        due("is closed", 1, () -> x.piste(0, 4));
        x.groom(0);
        due("groomed to open", 2, () -> x.open(0, true));
        due("is open again", 0, () -> x.piste(0, 4));
        due("the other one is as it was", 0, () -> x.piste(1, 4));
        sentence("8", "Throws `IndexOutOfBoundsException` if there is no such piste");
        for (int piste : new int[] {-1, 2, LEAST, GREATEST}) {
            refused("piste " + piste, INDEX, () -> x.open(piste, true));
            refused("closing piste " + piste, INDEX, () -> x.open(piste, false));
        }
        refused("piste 10 of 10", INDEX, () -> Areas.full().open(10, true));
        due("piste 9 of 10", 0, () -> Areas.full().open(9, false));
    }

    private static void openWorn() {
        sentence("8", "Throws `IllegalStateException` if it would be opened, and its wear is 20 or more");
        for (int wear : range(18, 22)) {
            SlopeOperator x = Areas.worn(wear);
            due("closing with wear " + wear, 0, () -> x.open(0, false));
            due("closing once more", 1, () -> x.open(0, false));
            due("opening with wear " + wear, wear < 20 ? "1" : "IllegalStateException",
                    () -> Told.answer(() -> x.open(0, true)));
            due("the state with wear " + wear, wear < 20 ? 0 : 1, () -> x.piste(0, 4));
        }
        SlopeOperator open = Areas.worn(20);
        refused("opening one that is open before the tick ends", STATE, () -> open.open(0, true));
        due("it stays open", 0, () -> open.piste(0, 4));
        SlopeOperator groomed = Areas.worn(32);
        groomed.open(0, false);
        groomed.groom(0);
        groomed.advance(7);
        due("opening when the grooming is done", 0, () -> groomed.open(0, true));
    }

    private static void openGroomed() {
        sentence("8", "Its wear stays; grooming that is not finished is given up.");
        SlopeOperator x = Areas.worn(19);
        x.open(0, false);
        x.groom(0);
        x.advance(3);
        due("1 tick is left", 1, () -> x.piste(0, 6));
        due("closing", 2, () -> x.open(0, false));
        due("the wear", 19, () -> x.piste(0, 5));
        due("the rest", 0, () -> x.piste(0, 6));
        x.advance(5);
        due("it stays closed", 1, () -> x.piste(0, 4));
        due("with its wear", 19, () -> x.piste(0, 5));
        due("grooming begins anew", 4, () -> x.groom(0));
        sentence("More precisely", "A groomed piste can only be opened if its wear is less than 20, and keeps its wear then.");
        due("opening with wear 19", 2, () -> x.open(0, true));
        due("the wear stays 19", 19, () -> x.piste(0, 5));
        due("no rest", 0, () -> x.piste(0, 6));
        x.advance(9);
        due("no grooming goes on", 19, () -> x.piste(0, 5));
        due("19 stays open", 0, () -> x.piste(0, 4));
        SlopeOperator y = Areas.worn(20);
        y.open(0, false);
        y.groom(0);
        y.advance(1);
        refused("opening with wear 20", STATE, () -> y.open(0, true));
        due("it is groomed on", 4, () -> y.piste(0, 6));
        due("with its wear", 20, () -> y.piste(0, 5));
    }

    private static void groom() {
        sentence("9", "Begins to groom a closed piste.", "Throws `IllegalStateException` if it is not closed");
        SlopeOperator x = Areas.worn(7);
        refused("an open one", STATE, () -> x.groom(0));
        due("is still open", 0, () -> x.piste(0, 4));
        x.open(0, false);
        due("a closed one", 2, () -> x.groom(0));
        refused("a groomed one", STATE, () -> x.groom(0));
        due("keeps its rest", 2, () -> x.piste(0, 6));
        x.advance(1);
        refused("a groomed one, a tick later", STATE, () -> x.groom(0));
        due("keeps its rest a tick later", 1, () -> x.piste(0, 6));
        x.advance(1);
        refused("one that has been groomed", STATE, () -> x.groom(0));
        SlopeOperator y = Areas.worn(20);
        refused("one with wear 20, before the tick ends", STATE, () -> y.groom(0));
        y.advance(1);
        due("one that was closed for its wear", 5, () -> y.groom(0));
        sentence("9", "Throws `IndexOutOfBoundsException` if there is no such piste");
        for (int piste : new int[] {-1, 2, LEAST, GREATEST}) {
            refused("piste " + piste, INDEX, () -> x.groom(piste));
        }
        refused("piste 10 of 10", INDEX, () -> Areas.full().groom(10));
    }

    private static void groomingTicks() {
        sentence("9", "It takes 1 tick, and 1 more for each 5 of its wear, rounded down.", "Returns the number of ticks.");
        int[] ticks = {1, 1, 1, 1, 1, 2, 2, 2, 2, 2, 3, 3, 3, 3, 3, 4, 4, 4, 4, 4, 5, 5, 5, 5, 5, 6, 6, 6, 6, 6, 7, 7, 7};
        for (int wear : range(0, 32)) {
            SlopeOperator x = Areas.worn(wear);
            x.open(0, false);
            due("wear " + wear, ticks[wear], () -> x.groom(0));
            due("wear " + wear + ", told", ticks[wear], () -> x.piste(0, 6));
            if (wear > 4) {
                x.advance(ticks[wear] - 1);
            }
            due("wear " + wear + ", a tick before", 2, () -> x.piste(0, 4));
            x.advance(1);
            due("wear " + wear + ", then", 0, () -> x.piste(0, 4));
        }
    }

    private static void nextTickAlready() {
        sentence("More precisely", "The rest of a groomed piste decreases in the next tick already.");
        SlopeOperator x = Areas.worn(0);
        x.open(0, false);
        x.open(1, false);
        x.groom(0);
        x.advance(1);
        due("without wear, open behind one tick", 0, () -> x.piste(0, 4));
        due("another one stays closed", 1, () -> x.piste(1, 4));
        SlopeOperator y = Areas.worn(5);
        y.open(0, false);
        y.groom(0);
        y.advance(1);
        due("with wear 5, 1 is left", 1, () -> y.piste(0, 6));
    }

    private static void ski() {
        sentence("14", "Throws `IndexOutOfBoundsException` if there is no such guest or piste");
        SlopeOperator x = Areas.worn(0);
        for (int number : new int[] {-1, 16, LEAST, GREATEST}) {
            refused("guest " + number, INDEX, () -> x.ski(number, 0));
            refused("piste " + number, INDEX, () -> x.ski(0, number));
        }
        refused("piste 2 of 2", INDEX, () -> x.ski(0, 2));
        refused("piste 10 of 10", INDEX, () -> Areas.full().ski(15, 10));
        refused("no reason by that", NONE, x::reason);
        due("no refusal by that", 0, () -> x.guestAccount(0, 2));
        due("guest 15 of 16", 1, () -> x.ski(15, 0));
        sentence("14", "Throws `UnsupportedOperationException` if it is refused; the reason is then kept, and the");
        refused("guest 15 skis", REFUSED, () -> x.ski(15, 0));
        due("the reason", 1, x::reason);
        due("the refusal", 1, () -> x.guestAccount(15, 2));
        refused("elsewhere", REFUSED, () -> x.ski(0, 1));
        due("the next reason", 2, x::reason);
        due("the refusal of another guest", 1, () -> x.guestAccount(0, 2));
        due("the wear stays", 1, () -> x.piste(0, 5));
        due("the account stays", 1, () -> x.pisteAccount(0));
        due("the guest's account stays", 1, () -> x.guestAccount(15, 1));
        due("the guest stays", 0, () -> x.guest(0, 0));
        due("the rest stays", 1, () -> x.guest(15, 2));
    }

    private static void whyNotSki() {
        sentence("17", "Returns why a call of ski would be refused.", "Returns the reason, or 0 if it would not be.");
        SlopeOperator x = Areas.full();
        for (int guest : range(0, 15)) {
            for (int piste : range(0, 9)) {
                int why = x.whyNotSki(guest, piste);
                SlopeOperator y = Areas.full();
                String answer = Told.answer(() -> y.ski(guest, piste));
                due(guest + " on " + piste, why == 0, () -> !answer.equals("UnsupportedOperationException"));
                due(guest + " on " + piste + ", the reason", why == 0 ? "NoSuchElementException" : "" + why,
                        () -> Told.answer(y::reason));
            }
        }
        refused("it keeps no reason", NONE, x::reason);
        sentence("17", "Throws `IndexOutOfBoundsException` if there is no such guest or piste");
        for (int number : new int[] {-1, LEAST, GREATEST}) {
            refused("guest " + number, INDEX, () -> x.whyNotSki(number, 0));
            refused("piste " + number, INDEX, () -> x.whyNotSki(0, number));
        }
        refused("guest 16 of 16", INDEX, () -> x.whyNotSki(16, 9));
        refused("piste 10 of 10", INDEX, () -> x.whyNotSki(15, 10));
        due("guest 15 and piste 9", 1, () -> x.whyNotSki(15, 9));
    }
}
