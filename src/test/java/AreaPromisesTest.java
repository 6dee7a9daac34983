/** Promises 1 to 10: the area, its lifts, its pistes and the wind. */
public final class AreaPromisesTest {
    private static final Class<IndexOutOfBoundsException> INDEX = IndexOutOfBoundsException.class;
    private static final Class<IllegalArgumentException> ARGUMENT = IllegalArgumentException.class;
    private static final Class<IllegalStateException> STATE = IllegalStateException.class;

    public static void main(String[] args) {
        promise1NewObject();
        promise2Clear();
        promise3AddLift();
        promise4AddPiste();
        promise5SetWind();
        promise6Lift();
        promise7Piste();
        promise8Open();
        promise9Groom();
        promise9WearClosesAtTheEndOfATick();
        promise10Count();
        Check.end();
    }

    private static void promise1NewObject() {
        SlopeOperator x = new SlopeOperator();
        for (int what = 0; what <= 11; what++) {
            int k = what;
            Check.due("1: count " + k + " of a new object", 0, () -> x.count(k));
        }
        Check.refused("1: no undo", java.util.NoSuchElementException.class, x::undo);
        Check.refused("1: nothing saved", STATE, x::restore);
        Check.refused("1: no reason", java.util.NoSuchElementException.class, x::reason);
        Check.refused("1: no error position", java.util.NoSuchElementException.class, x::errorPosition);
        Check.due("1: the input is empty", 1, () -> x.append('a'));
        Check.due("1: the accounts add up", 0, x::audit);
    }

    private static void promise2Clear() {
        SlopeOperator x = new SlopeOperator();
        Check.due("2: clear of nothing", 0, x::clear);
        x.addLift(0, 1, 0, 1, 1, 10);
        x.addPiste(1, 0, 1, 1);
        x.addGuest(0, 1, 15, 0, 9);
        x.addGuest(2, 1, 15, 0, 9);
        x.queue(0, 0);
        Check.refused("2: a refusal", UnsupportedOperationException.class, () -> x.queue(1, 0));
        Check.due("2: input", 1, () -> x.append('x'));
        Check.refused("2: a wrong text", ARGUMENT, x::read);
        x.append('w');
        x.setWind(4);
        x.advance(3);
        x.endDay();
        x.advance(2);
        x.save();
        Check.due("2: guests that there were", 2, x::clear);
        for (int what = 0; what <= 11; what++) {
            int k = what;
            Check.due("2: count " + k + " after clear", 0, () -> x.count(k));
        }
        Check.refused("2: no lift is left", INDEX, () -> x.lift(0, 0));
        Check.refused("2: no piste is left", INDEX, () -> x.piste(0, 0));
        Check.refused("2: no guest is left", INDEX, () -> x.guest(0, 0));
        Check.refused("2: the history is forgotten", java.util.NoSuchElementException.class, x::undo);
        Check.due("2: the reason stays", 2, x::reason);
        Check.due("2: the error position stays", 0, x::errorPosition);
        Check.due("2: the input stays", 2, () -> x.append('3'));
        Check.due("2: new lifts begin at 0", 0, () -> x.addLift(0, 1, 0, 1, 1, 10));
        Check.due("2: with the clock 0", 0, () -> x.lift(0, 8));
        Check.due("2: with no cabins", 0, () -> x.liftAccount(0, 1));
        Check.due("2: new pistes begin at 0", 0, () -> x.addPiste(0, 1, 1, 1));
        Check.due("2: with no account", 0, () -> x.pisteAccount(0));
        Check.due("2: new guests begin at 0", 0, () -> x.addGuest(0, 1, 15, 0, 9));
        Check.due("2: with no rides", 0, () -> x.guestAccount(0, 0));
        Check.due("2: with no refusals", 0, () -> x.guestAccount(0, 2));
        Check.due("2: what was saved stays", 2, x::restore);
        Check.due("2: with its wind", 4, () -> x.count(3));
        Check.due("2: with its tick", 2, () -> x.count(4));
        Check.due("2: with its day", 1, () -> x.count(5));
    }

    private static void promise3AddLift() {
        SlopeOperator x = new SlopeOperator();
        Check.due("3: the first", 0, () -> x.addLift(0, 7, 0, 1, 1, 10));
        Check.due("3: the second", 1, () -> x.addLift(7, 0, 3, 6, 8, 93));
        int[][] noStation = {{-1, 0}, {8, 0}, {0, -1}, {0, 8}, {8, 8}, {Integer.MIN_VALUE, Integer.MAX_VALUE}};
        for (int[] s : noStation) {
            Check.refused("3: no station " + s[0] + " " + s[1], INDEX, () -> x.addLift(s[0], s[1], 9, 9, 9, 9));
        }
        int[][] wrong = {
            {0, 0, 1, 1, 1, 10}, {0, 1, -1, 1, 1, 10}, {0, 1, 4, 1, 1, 10}, {0, 1, 0, 0, 1, 10}, {0, 1, 0, 7, 1, 10},
            {0, 1, 0, 1, 0, 10}, {0, 1, 0, 1, 9, 10}, {0, 1, 0, 1, 1, 9}, {0, 1, 0, 1, 1, 14}, {0, 1, 0, 1, 1, 94},
            {0, 1, 0, 1, 1, 100}, {0, 1, 0, 1, 1, 0}, {0, 1, 0, 1, 1, 3}, {0, 1, 0, 1, 1, -10}, {0, 1, 0, 1, 1, -1},
            {0, 1, 0, 1, 1, Integer.MIN_VALUE}, {0, 1, 0, 1, 1, Integer.MAX_VALUE}, {0, 1, 0, 1, 1, 19}};
        for (int[] w : wrong) {
            Check.refused("3: out of range " + java.util.Arrays.toString(w), ARGUMENT,
                    () -> x.addLift(w[0], w[1], w[2], w[3], w[4], w[5]));
        }
        Check.due("3: no refused one was added", 2, () -> x.count(0));
        for (int i = 2; i < 6; i++) {
            int k = i;
            Check.due("3: lift " + k, k, () -> x.addLift(1, 2, 1, 2, 2, 22));
        }
        Check.refused("3: the seventh", STATE, () -> x.addLift(1, 2, 1, 2, 2, 22));
        Check.refused("3: a wrong seventh", ARGUMENT, () -> x.addLift(1, 1, 1, 2, 2, 22));
        Check.refused("3: a seventh nowhere", INDEX, () -> x.addLift(1, 8, 1, 2, 2, 22));
        Check.due("3: there are 6", 6, () -> x.count(0));
        Check.due("3: each was a change", 5, x::undo);
    }

    private static void promise4AddPiste() {
        SlopeOperator x = new SlopeOperator();
        Check.due("4: the first", 0, () -> x.addPiste(0, 7, 1, 1));
        Check.due("4: the second", 1, () -> x.addPiste(7, 0, 3, 9));
        Check.due("4: it is open", 0, () -> x.piste(1, 4));
        int[][] noStation = {{-1, 0}, {8, 0}, {0, -1}, {0, 8}, {8, 8}};
        for (int[] s : noStation) {
            Check.refused("4: no station " + s[0] + " " + s[1], INDEX, () -> x.addPiste(s[0], s[1], 0, 0));
        }
        int[][] wrong = {{3, 3, 1, 1}, {0, 1, 0, 1}, {0, 1, 4, 1}, {0, 1, 1, 0}, {0, 1, 1, 10}, {0, 1, -1, 1}};
        for (int[] w : wrong) {
            Check.refused("4: out of range " + java.util.Arrays.toString(w), ARGUMENT,
                    () -> x.addPiste(w[0], w[1], w[2], w[3]));
        }
        for (int i = 2; i < 10; i++) {
            int k = i;
            Check.due("4: piste " + k, k, () -> x.addPiste(1, 2, 2, 2));
        }
        Check.refused("4: the eleventh", STATE, () -> x.addPiste(1, 2, 2, 2));
        Check.refused("4: a wrong eleventh", ARGUMENT, () -> x.addPiste(1, 1, 2, 2));
        Check.due("4: there are 10", 10, () -> x.count(1));
        Check.due("4: all open", 10, () -> x.count(11));
        Check.due("4: each was a change", 7, x::undo);
    }

    private static void promise5SetWind() {
        SlopeOperator x = new SlopeOperator();
        Check.due("5: no lifts, none held", 0, () -> x.setWind(9));
        for (int exposure = 0; exposure <= 3; exposure++) {
            x.addLift(0, 1, 0, 1, 1, 10 + exposure);
        }
        Check.due("5: wind 5", 0, () -> x.setWind(5));
        Check.due("5: wind 6", 8, () -> x.setWind(6));
        Check.due("5: wind 7", 12, () -> x.setWind(7));
        Check.due("5: wind 8", 14, () -> x.setWind(8));
        Check.due("5: wind 9", 15, () -> x.setWind(9));
        Check.refused("5: wind 10", ARGUMENT, () -> x.setWind(10));
        Check.refused("5: wind -1", ARGUMENT, () -> x.setWind(-1));
        Check.due("5: a refused wind changes nothing", 9, () -> x.count(3));
        Check.due("5: wind 0", 0, () -> x.setWind(0));
        Check.due("5: the same wind is a change", 0, () -> x.setWind(0));
        Check.due("5: undone", 7, x::undo);
        Check.due("5: the wind before the same", 0, () -> x.count(3));
        Check.due("5: undone again", 6, x::undo);
        Check.due("5: the wind before", 9, () -> x.count(3));
    }

    private static void promise6Lift() {
        SlopeOperator x = new SlopeOperator();
        Check.refused("6: no lift yet", INDEX, () -> x.lift(0, 0));
        x.addLift(3, 6, 2, 4, 2, 53);
        int[] want = {3, 6, 2, 4, 2, 5, 3, 0, 0, 0, 0};
        for (int what = 0; what <= 10; what++) {
            int k = what;
            Check.due("6: number " + k, want[k], () -> x.lift(0, k));
        }
        Check.refused("6: what 11", ARGUMENT, () -> x.lift(0, 11));
        Check.refused("6: what -1", ARGUMENT, () -> x.lift(0, -1));
        Check.refused("6: lift 1", INDEX, () -> x.lift(1, 11));
        Check.refused("6: lift -1", INDEX, () -> x.lift(-1, 0));
        int[] states = {0, 0, 0, 1, 1, 1, 2, 2, 2, 2};
        for (int wind = 0; wind <= 9; wind++) {
            x.setWind(wind);
            Check.due("6: state in wind " + wind, states[wind], () -> x.lift(0, 7));
        }
        x.setWind(0);
        for (int g = 0; g < 3; g++) {
            x.addGuest(3, 1, 4, 0, 0);
            x.queue(g, 0);
        }
        Check.due("6: in the queue", 3, () -> x.lift(0, 9));
        x.advance(1);
        Check.due("6: the clock of one that runs", 2, () -> x.lift(0, 8));
        x.setWind(3);
        x.advance(1);
        Check.due("6: the clock of a slow one", 3, () -> x.lift(0, 8));
        x.setWind(6);
        x.advance(9);
        Check.due("6: the clock of a held one", 3, () -> x.lift(0, 8));
        x.setWind(0);
        x.advance(3);
        Check.due("6: the clock behind a departure", 1, () -> x.lift(0, 8));
        Check.due("6: left in the queue", 1, () -> x.lift(0, 9));
        Check.due("6: riding", 2, () -> x.lift(0, 10));
        x.advance(5);
        Check.due("6: all have come or ride", 0, () -> x.lift(0, 9));
        Check.due("6: the third rides", 1, () -> x.lift(0, 10));
    }

    private static void promise7Piste() {
        SlopeOperator x = new SlopeOperator();
        Check.refused("7: no piste yet", INDEX, () -> x.piste(0, 0));
        x.addPiste(5, 2, 2, 7);
        int[] want = {5, 2, 2, 7, 0, 0, 0, 0};
        for (int what = 0; what <= 7; what++) {
            int k = what;
            Check.due("7: number " + k, want[k], () -> x.piste(0, k));
        }
        Check.refused("7: what 8", ARGUMENT, () -> x.piste(0, 8));
        Check.refused("7: what -1", ARGUMENT, () -> x.piste(0, -1));
        Check.refused("7: piste 1", INDEX, () -> x.piste(1, 8));
        Check.refused("7: piste -1", INDEX, () -> x.piste(-1, 8));
        for (int g = 0; g < 3; g++) {
            x.addGuest(5, g + 1, 0, 0, 0);
            x.ski(g, 0);
        }
        Check.due("7: wear", 6, () -> x.piste(0, 5));
        Check.due("7: guests on it", 3, () -> x.piste(0, 7));
        x.open(0, false);
        Check.due("7: closed", 1, () -> x.piste(0, 4));
        Check.due("7: those on it do not mind", 3, () -> x.piste(0, 7));
        x.groom(0);
        Check.due("7: groomed", 2, () -> x.piste(0, 4));
        Check.due("7: the rest", 2, () -> x.piste(0, 6));
        x.advance(1);
        Check.due("7: the rest behind a tick", 1, () -> x.piste(0, 6));
        Check.due("7: the wear while groomed", 6, () -> x.piste(0, 5));
        x.advance(1);
        Check.due("7: open again", 0, () -> x.piste(0, 4));
        Check.due("7: no rest then", 0, () -> x.piste(0, 6));
        Check.due("7: no wear then", 0, () -> x.piste(0, 5));
        x.advance(5);
        Check.due("7: two have come", 1, () -> x.piste(0, 7));
        Check.due("7: to the station it leads to", 2, () -> x.guest(1, 1));
    }

    private static void promise8Open() {
        SlopeOperator x = worn(21);
        Check.refused("8: no such piste", INDEX, () -> x.open(2, true));
        Check.refused("8: nor -1", INDEX, () -> x.open(-1, false));
        Check.refused("8: worn out, to be opened while open", STATE, () -> x.open(0, true));
        Check.due("8: closing an open one", 0, () -> x.open(0, false));
        Check.refused("8: worn out", STATE, () -> x.open(0, true));
        Check.due("8: closing a closed one", 1, () -> x.open(0, false));
        Check.due("8: the wear stays", 21, () -> x.piste(0, 5));
        x.groom(0);
        Check.refused("8: a groomed one with too much wear", STATE, () -> x.open(0, true));
        Check.due("8: it is still groomed", 2, () -> x.piste(0, 4));
        Check.due("8: closing gives grooming up", 2, () -> x.open(0, false));
        Check.due("8: no rest then", 0, () -> x.piste(0, 6));
        Check.due("8: the wear stays when grooming is given up", 21, () -> x.piste(0, 5));
        SlopeOperator y = worn(18);
        Check.due("8: close", 0, () -> y.open(0, false));
        y.groom(0);
        Check.due("8: opening a groomed one", 2, () -> y.open(0, true));
        Check.due("8: keeps its wear", 18, () -> y.piste(0, 5));
        Check.due("8: has no rest", 0, () -> y.piste(0, 6));
        y.advance(4);
        Check.due("8: is not groomed on", 18, () -> y.piste(0, 5));
        Check.due("8: opening an open one", 0, () -> y.open(0, true));
        Check.due("8: undone", 0, () -> {
            y.undo();
            return y.piste(0, 4);
        });
    }

    private static void promise9Groom() {
        int[][] wearAndTicks = {{0, 1}, {3, 1}, {6, 2}, {9, 2}, {12, 3}, {15, 4}, {18, 4}, {21, 5}};
        for (int[] w : wearAndTicks) {
            SlopeOperator x = worn(w[0]);
            Check.refused("9: an open one", STATE, () -> x.groom(0));
            x.open(0, false);
            Check.due("9: ticks with wear " + w[0], w[1], () -> x.groom(0));
            Check.refused("9: a groomed one", STATE, () -> x.groom(0));
            if (w[1] > 1) {
                x.advance(w[1] - 1);
            }
            Check.due("9: not yet ready with wear " + w[0], 2, () -> x.piste(0, 4));
            Check.due("9: 1 tick is left", 1, () -> x.piste(0, 6));
            x.advance(1);
            Check.due("9: open then", 0, () -> x.piste(0, 4));
            Check.due("9: without wear", 0, () -> x.piste(0, 5));
        }
        SlopeOperator x = new SlopeOperator();
        Check.refused("9: no such piste", INDEX, () -> x.groom(0));
    }

    private static void promise9WearClosesAtTheEndOfATick() {
        SlopeOperator x = worn(21);
        Check.due("9: open before the tick", 0, () -> x.piste(0, 4));
        x.endDay();
        Check.due("9: the end of a day leaves it open", 0, () -> x.piste(0, 4));
        Check.due("9: with its wear", 21, () -> x.piste(0, 5));
        x.advance(1);
        Check.due("9: closed by the tick", 1, () -> x.piste(0, 4));
        SlopeOperator y = new SlopeOperator();
        y.addPiste(0, 1, 2, 1);
        for (int g = 0; g < 10; g++) {
            y.addGuest(0, 1, 0, 0, 0);
            if (g == 9) {
                y.advance(1);
                Check.due("9: wear 18 stays open", 0, () -> y.piste(0, 4));
            }
            y.ski(g, 0);
        }
        Check.refused("8: wear 20 is too much", STATE, () -> y.open(0, true));
        y.advance(1);
        Check.due("9: wear 20 closes", 1, () -> y.piste(0, 4));
        Check.refused("8: wear 20 is too much when closed", STATE, () -> y.open(0, true));
    }

    private static void promise10Count() {
        SlopeOperator x = new SlopeOperator();
        x.addLift(0, 1, 0, 1, 1, 20);
        x.addLift(0, 1, 0, 6, 1, 20);
        x.addPiste(0, 1, 1, 9);
        x.addPiste(0, 1, 1, 9);
        x.addPiste(0, 1, 1, 9);
        for (int g = 0; g < 7; g++) {
            x.addGuest(0, 1, 1, 0, 5);
        }
        x.setWind(2);
        x.endDay();
        for (int g = 7; g < 15; g++) {
            x.addGuest(0, 1, 1, 0, 5);
        }
        x.queue(7, 0);
        x.queue(8, 1);
        x.queue(9, 1);
        x.ski(10, 2);
        x.ski(11, 2);
        x.ski(12, 2);
        x.open(0, false);
        x.advance(1);
        int[] want = {2, 3, 15, 2, 1, 1, 2, 2, 1, 3, 7, 2};
        for (int what = 0; what <= 11; what++) {
            int k = what;
            Check.due("10: count " + k, want[k], () -> x.count(k));
        }
        Check.refused("10: what 12", ARGUMENT, () -> x.count(12));
        Check.refused("10: what -1", ARGUMENT, () -> x.count(-1));
    }

    /** An area whose piste 0 has this wear, a multiple of 3, and is open. */
    private static SlopeOperator worn(int wear) {
        SlopeOperator x = new SlopeOperator();
        x.addPiste(0, 1, 3, 1);
        x.addPiste(1, 0, 1, 1);
        for (int g = 0; g < wear / 3; g++) {
            x.addGuest(0, 3, 0, 0, 9);
            x.ski(g, 0);
        }
        return x;
    }
}
