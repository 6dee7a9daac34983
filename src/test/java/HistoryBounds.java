import java.util.ArrayList;
import java.util.List;
import java.util.function.Consumer;

/** Sentences about the history, and about the promises 38 to 40. */
final class HistoryBounds extends Bounds {
    private HistoryBounds() {
    }

    static void ask() {
        changes();
        noChanges();
        nothingDifferent();
        atMostEight();
        forgottenForGood();
        everyRemainder();
        everythingIsRemembered();
        refusals();
        rowsOfOtherAreas();
        clearAndRestoreForget();
        whatStays();
        undo();
        save();
        restore();
    }

    /** The changes of each kind, done on an area that allows each of them. */
    private static List<Consumer<SlopeOperator>> allChanges() {
        List<Consumer<SlopeOperator>> all = new ArrayList<>();
        all.add(x -> x.addLift(0, 1, 0, 1, 1, 10));
        all.add(x -> x.addPiste(0, 1, 1, 1));
        all.add(x -> x.addGuest(0, 1, 1, 0, 0));
        all.add(x -> x.setWind(7));
        all.add(x -> x.open(0, false));
        all.add(x -> x.open(2, true));
        all.add(x -> x.groom(2));
        all.add(x -> x.queue(2, 0));
        all.add(x -> x.ski(2, 0));
        all.add(x -> x.leave(2));
        all.add(x -> x.leave(1));
        all.add(x -> x.advance(1));
        all.add(SlopeOperator::endDay);
        all.add(x -> readText(x, "w4;"));
        all.add(x -> readText(x, "g01;q2-0;t9;s3-0;w1;"));
        return all;
    }

    /** 5 changes are remembered. */
    private static SlopeOperator ready() {
        SlopeOperator x = Areas.waiting(4, 0, 2, 2, 30);
        x.addPiste(0, 1, 1, 9);
        x.addPiste(1, 0, 1, 9);
        x.addPiste(1, 0, 1, 9);
        x.open(2, false);
        x.save();
        x.restore();
        x.queue(1, 0);
        x.queue(0, 0);
        x.advance(1);
        x.setWind(1);
        x.setWind(0);
        return x;
    }

    private static void changes() {
        sentence("History", "A change is a call of addLift, addPiste, addGuest, setWind, open, groom, queue, ski, leave");
        for (Consumer<SlopeOperator> change : allChanges()) {
            SlopeOperator x = ready();
            change.accept(x);
            due("it is remembered", 5, x::undo);
            due("it is undone", Told.numbers(ready()), () -> Told.numbers(x));
            change.accept(x);
            SlopeOperator y = ready();
            change.accept(y);
            due("it is done again", Told.numbers(y), () -> Told.numbers(x));
            due("and is remembered again", 5, x::undo);
            for (int left : range(0, 4)) {
                due("those before it too", 4 - left, x::undo);
            }
            refused("none is left", NONE, x::undo);
        }
    }

    private static void noChanges() {
        List<Consumer<SlopeOperator>> all = new ArrayList<>();
        all.add(SlopeOperator::save);
        all.add(x -> x.append('w'));
        all.add(SlopeOperator::audit);
        all.add(x -> x.whyNotQueue(2, 0));
        all.add(x -> x.whyNotSki(2, 0));
        all.add(x -> x.arrival(0));
        all.add(x -> Told.answer(() -> x.queue(3, 1)));
        all.add(x -> Told.answer(() -> x.queue(0, 0)));
        all.add(x -> Told.answer(() -> x.ski(3, 1)));
        all.add(x -> Told.answer(() -> x.ski(3, 9)));
        all.add(x -> Told.answer(() -> x.groom(0)));
        all.add(x -> Told.answer(() -> x.leave(9)));
        all.add(x -> Told.answer(() -> x.advance(0)));
        all.add(x -> Told.answer(() -> x.setWind(10)));
        all.add(x -> Told.answer(() -> x.open(3, true)));
        all.add(x -> Told.answer(() -> x.addLift(0, 0, 0, 1, 1, 10)));
        all.add(x -> Told.answer(() -> x.addPiste(0, 0, 1, 1)));
        all.add(x -> Told.answer(() -> x.addGuest(0, 0, 0, 0, 0)));
        all.add(x -> Told.answer(() -> readText(x, "w1;w")));
        all.add(x -> Told.answer(() -> readText(x, "w1;q0-0;")));
        for (Consumer<SlopeOperator> call : all) {
            SlopeOperator x = ready();
            call.accept(x);
            due("what throws, and other calls, are none", 4, x::undo);
            due("the change before is undone", 1, () -> x.count(3));
        }
    }

    private static void nothingDifferent() {
        sentence("More precisely", "A call that is named under History is a change also if nothing is different then.");
        List<Consumer<SlopeOperator>> all = new ArrayList<>();
        all.add(x -> x.setWind(0));
        all.add(x -> x.open(0, true));
        all.add(x -> x.open(2, false));
        all.add(x -> readText(x, "w0;"));
        all.add(x -> readText(x, "w9;w0;"));
        for (Consumer<SlopeOperator> change : all) {
            SlopeOperator x = ready();
            change.accept(x);
            due("nothing is different", Told.numbers(ready()), () -> Told.numbers(x));
            due("it is a change", 5, x::undo);
            due("nothing is different by undo", Told.numbers(ready()), () -> Told.numbers(x));
            due("the change before", 4, x::undo);
            due("is undone then", 1, () -> x.count(3));
        }
        SlopeOperator empty = new SlopeOperator();
        due("no ticks matter to an empty area, but for their number", 0, () -> empty.advance(1));
        due("that is a change", 0, empty::undo);
        due("the tick number is back", 0, () -> empty.count(4));
    }

    private static SlopeOperator winds(int changes) {
        SlopeOperator x = new SlopeOperator();
        for (int i : range(1, changes)) {
            x.setWind(i % 10);
        }
        return x;
    }

    private static void atMostEight() {
        sentence("History", "The object remembers everything except the reason, the input, the error position and what");
        for (int changes : range(0, 26)) {
            SlopeOperator x = winds(changes);
            int remembered = Math.min(changes, 8);
            for (int i : range(1, remembered)) {
                due(changes + " changes, " + i + " undone", remembered - i, x::undo);
                due(changes + " changes, the wind behind " + i, (changes - i) % 10, () -> x.count(3));
            }
            refused(changes + " changes, no more", NONE, x::undo);
            due(changes + " changes, the wind stays", (changes - remembered) % 10, () -> x.count(3));
        }
    }

    private static void forgottenForGood() {
        SlopeOperator x = winds(9);
        for (int i : range(1, 8)) {
            x.undo();
        }
        refused("the ninth back is forgotten", NONE, x::undo);
        due("the first change stays", 1, () -> x.count(3));
        x.setWind(5);
        due("one more", 0, x::undo);
        refused("it is forgotten for good", NONE, x::undo);
        due("the first change still stays", 1, () -> x.count(3));
        SlopeOperator y = winds(8);
        y.undo();
        y.setWind(4);
        for (int left : range(0, 7)) {
            due("8 again", 7 - left, y::undo);
        }
        due("none was forgotten", 0, () -> y.count(3));
    }

    /** All ways to have so many changes, so many undone, and so many more: the rows are used around. */
    private static void everyRemainder() {
        for (int changes : range(0, 17)) {
            for (int undone : range(0, Math.min(changes, 8))) {
                for (int more : new int[] {0, 1, 4, 8, 9}) {
                    SlopeOperator x = new SlopeOperator();
                    List<Integer> past = new ArrayList<>();
                    change(x, past, changes);
                    for (int i : range(1, undone)) {
                        due("undone", past.size() - 1, x::undo);
                        due("the tick number", past.remove(past.size() - 1), () -> x.count(4));
                    }
                    change(x, past, more);
                    for (int left = past.size() - 1; left >= 0; left--) {
                        due("undone later", left, x::undo);
                        due("the tick number then", past.remove(left), () -> x.count(4));
                    }
                    refused("none is left", NONE, x::undo);
                }
            }
        }
    }

    private static void change(SlopeOperator x, List<Integer> past, int howMany) {
        for (int i : range(1, howMany)) {
            past.add(x.count(4));
            if (past.size() > 8) {
                past.remove(0);
            }
            x.advance(i);
        }
    }

    private static void everythingIsRemembered() {
        sentence("History", "The object remembers everything except the reason, the input, the error position and what");
        List<Consumer<SlopeOperator>> all = List.of(SlopeOperator::endDay, x -> x.advance(50), x -> x.setWind(9),
                x -> x.open(2, false), x -> x.leave(4), x -> readText(x, "9;w9;g73;t9;"));
        for (Consumer<SlopeOperator> change : all) {
            SlopeOperator x = Areas.busy();
            change.accept(x);
            x.setWind(3);
            x.addLift(5, 6, 0, 1, 1, 10);
            x.addPiste(5, 6, 1, 1);
            x.addGuest(5, 1, 1, 1, 1);
            for (int left : range(0, 4)) {
                due("undone", 7 - left, x::undo);
            }
            due("all numbers of a busy area", Told.numbers(Areas.busy()), () -> Told.numbers(x));
        }
        SlopeOperator full = Areas.full();
        String numbers = Told.numbers(full);
        full.endDay();
        full.setWind(8);
        full.advance(50);
        full.open(0, false);
        full.groom(0);
        full.undo();
        full.undo();
        full.undo();
        full.undo();
        due("the last of them", 3, full::undo);
        due("all numbers of a full area", numbers, () -> Told.numbers(full));
    }

    /** What is remembered and saved has nothing of an area that was remembered and saved before. */
    private static void rowsOfOtherAreas() {
        SlopeOperator x = Areas.used();
        x.save();
        x.clear();
        Areas.other(x);
        String numbers = Told.numbers(x);
        x.endDay();
        due("the end of a day of another area", 7, x::undo);
        due("the other area", numbers, () -> Told.numbers(x));
        x.save();
        x.clear();
        Areas.other(x);
        x.endDay();
        due("14 guests", 14, x::restore);
        due("the other area is restored", numbers, () -> Told.numbers(x));
        SlopeOperator y = Areas.other(new SlopeOperator());
        y.save();
        y.clear();
        for (int i : range(1, 8)) {
            y.setWind(i);
        }
        SlopeOperator used = usedAgain(y);
        String all = Told.numbers(used);
        used.save();
        used.advance(1);
        used.endDay();
        used.undo();
        used.undo();
        due("the used area", all, () -> Told.numbers(used));
        used.clear();
        Areas.other(used);
        used.restore();
        due("the used area is restored", all, () -> Told.numbers(used));
    }

    private static SlopeOperator usedAgain(SlopeOperator x) {
        x.clear();
        x.addLift(6, 7, 3, 4, 5, 63);
        x.addPiste(7, 6, 2, 5);
        x.addGuest(6, 3, 9, 0, 6);
        x.addGuest(6, 2, 9, 0, 6);
        x.addGuest(7, 1, 9, 0, 6);
        x.queue(0, 0);
        x.queue(1, 0);
        x.ski(2, 0);
        x.advance(5);
        Told.answer(() -> x.ski(0, 0));
        return x;
    }

    private static void refusals() {
        sentence("History", "The refusals of a guest are kept by undo as they were before the change.");
        SlopeOperator x = ready();
        refused("before the change", REFUSED, () -> x.queue(0, 0));
        x.setWind(2);
        refused("behind the change", REFUSED, () -> x.queue(0, 0));
        refused("behind it once more", REFUSED, () -> x.ski(3, 1));
        due("two of guest 0", 2, () -> x.guestAccount(0, 2));
        x.undo();
        due("one of guest 0 as before the change", 1, () -> x.guestAccount(0, 2));
        due("none of guest 3", 0, () -> x.guestAccount(3, 2));
        due("the reason stays", 2, x::reason);
        x.undo();
        due("none of guest 0 before that", 0, () -> x.guestAccount(0, 2));
    }

    private static void clearAndRestoreForget() {
        sentence("History", "clear and restore forget all of them.");
        for (int changes : new int[] {0, 1, 7, 8, 9, 20}) {
            SlopeOperator x = winds(changes);
            x.clear();
            refused("clear behind " + changes, NONE, x::undo);
            x.setWind(3);
            due("a change behind clear", 0, x::undo);
            refused("that is all", NONE, x::undo);
            SlopeOperator y = winds(changes);
            y.save();
            y.restore();
            refused("restore behind " + changes, NONE, y::undo);
            y.setWind(3);
            due("a change behind restore", 0, y::undo);
            due("the wind that was saved", changes % 10, () -> y.count(3));
            refused("that is all too", NONE, y::undo);
        }
        SlopeOperator none = winds(4);
        Told.answer(none::restore);
        due("a restore that throws forgets none", 3, none::undo);
    }

    private static void whatStays() {
        sentence("More precisely", "The reason, the input and the error position stay with undo and restore.");
        SlopeOperator x = Areas.busy();
        x.undo();
        due("the reason with undo", 2, x::reason);
        due("the error position with undo", 2, x::errorPosition);
        due("the input with undo", 5, () -> x.append('4'));
        x.restore();
        due("the reason with restore", 2, x::reason);
        due("the error position with restore", 2, x::errorPosition);
        due("the input with restore", 6, () -> x.append(';'));
        due("the whole input", 2, x::read);
        due("its ticks", 4, () -> x.count(4));
        SlopeOperator y = new SlopeOperator();
        y.save();
        y.setWind(2);
        Told.answer(() -> readText(y, "w"));
        y.restore();
        due("an error position that was kept behind save", 1, y::errorPosition);
        y.setWind(1);
        put(y, "w5");
        y.undo();
        due("an input that was made behind a change", 3, () -> y.append(';'));
    }

    private static void undo() {
        sentence("38", "Undoes the latest change that is remembered.",
                "Returns the number of changes that are still remembered.");
        SlopeOperator x = winds(3);
        due("2 are left", 2, x::undo);
        due("the latest is undone", 2, () -> x.count(3));
        due("1 is left", 1, x::undo);
        due("0 are left", 0, x::undo);
        sentence("38", "Throws `NoSuchElementException` if no change is remembered");
        refused("none is left", NONE, x::undo);
        refused("none at first", NONE, () -> new SlopeOperator().undo());
        due("it changes nothing", 0, () -> x.count(3));
        SlopeOperator saved = winds(2);
        saved.save();
        saved.undo();
        due("what was saved stays with undo", 0, saved::restore);
        due("the wind that was saved", 2, () -> saved.count(3));
    }

    private static void save() {
        sentence("39", "Saves all that the history remembers for a change.", "Returns the number of guests.");
        due("no guests", 0, () -> new SlopeOperator().save());
        due("16 guests", 16, () -> Areas.full().save());
        due("those who are away too", 8, () -> Areas.busy().save());
        SlopeOperator x = Areas.busy();
        String numbers = Told.numbers(x);
        x.save();
        due("it changes no number", numbers, () -> Told.numbers(x));
        x.clear();
        due("all is back", 8, x::restore);
        due("all numbers", numbers, () -> Told.numbers(x));
        SlopeOperator full = Areas.full();
        String all = Told.numbers(full);
        full.save();
        full.clear();
        due("16 are back", 16, full::restore);
        due("all numbers of a full area", all, () -> Told.numbers(full));
        sentence("39", "What was saved before is replaced.");
        SlopeOperator y = winds(1);
        y.save();
        y.setWind(2);
        y.save();
        y.setWind(3);
        y.restore();
        due("the newer one", 2, () -> y.count(3));
        SlopeOperator smaller = Areas.full();
        smaller.clear();
        due("nothing replaces much", 0, smaller::save);
        addGuests(smaller, 3, 0, 1);
        due("no guests are back", 0, smaller::restore);
        due("no numbers are back", Told.numbers(new SlopeOperator()), () -> Told.numbers(smaller));
    }

    private static void restore() {
        sentence("40", "Restores what was saved.", "It stays saved.", "Returns the number of guests.");
        SlopeOperator x = winds(4);
        addGuests(x, 2, 0, 1);
        x.save();
        for (int i : range(1, 3)) {
            addGuests(x, 5 * i - 4, 0, 1);
            x.setWind(i);
            x.endDay();
            due("each time", 2, x::restore);
            due("its wind", 4, () -> x.count(3));
            due("its day", 0, () -> x.count(5));
            due("its guests", 2, () -> x.count(2));
        }
        x.setWind(9);
        x.undo();
        due("also when it is undone what came behind", 2, x::restore);
        sentence("40", "Throws `IllegalStateException` if nothing was saved");
        refused("a new object", STATE, () -> new SlopeOperator().restore());
        SlopeOperator y = winds(9);
        refused("changes save nothing", STATE, y::restore);
        y.clear();
        refused("nor does clear", STATE, y::restore);
        y.save();
        due("but save", 0, y::restore);
    }
}
