import java.util.NoSuchElementException;

/** Promises 29 to 40: accounts, texts, history and saving. */
public final class AccountPromisesTest {
    private static final Class<IndexOutOfBoundsException> INDEX = IndexOutOfBoundsException.class;
    private static final Class<IllegalArgumentException> ARGUMENT = IllegalArgumentException.class;
    private static final Class<IllegalStateException> STATE = IllegalStateException.class;
    private static final Class<NoSuchElementException> NONE = NoSuchElementException.class;

    public static void main(String[] args) {
        promises29To34Accounts();
        promise33Busiest();
        promise35Append();
        promise36Read();
        promise36ReadsNothingOfIt();
        promise36OneChange();
        promise37ErrorPosition();
        promise38Undo();
        promise38EveryChange();
        promise39And40SaveAndRestore();
        promise40RestoresEveryNumber();
        promise2NewRowsBeginAnew();
        Check.end();
    }

    private static void promises29To34Accounts() {
        SlopeOperator x = new SlopeOperator();
        Check.refused("29: no lift", INDEX, () -> x.liftAccount(0, 9));
        Check.refused("30: no guest", INDEX, () -> x.guestAccount(0, 9));
        Check.refused("31: no piste", INDEX, () -> x.pisteAccount(0));
        Check.refused("33: nobody rode", NONE, x::busiest);
        Check.refused("34: no lift", INDEX, () -> x.load(0));
        x.addLift(0, 1, 0, 2, 2, 10);
        x.addPiste(1, 0, 1, 1);
        for (int g = 0; g < 3; g++) {
            x.addGuest(0, 1, 1, 0, 0);
            x.queue(g, 0);
        }
        Check.due("29: none rode", 0, () -> x.liftAccount(0, 0));
        Check.refused("34: no cabin", ArithmeticException.class, () -> x.load(0));
        x.advance(2);
        Check.due("29: two rode", 2, () -> x.liftAccount(0, 0));
        Check.due("29: a cabin", 1, () -> x.liftAccount(0, 1));
        Check.due("34: two in a cabin", 2.0, () -> x.load(0));
        Check.due("30: one ride", 1, () -> x.guestAccount(1, 0));
        Check.due("30: none in the queue", 0, () -> x.guestAccount(2, 0));
        x.advance(5);
        Check.due("29: three rode", 3, () -> x.liftAccount(0, 0));
        Check.due("29: three cabins", 3, () -> x.liftAccount(0, 1));
        Check.due("34: one a cabin", 1.0, () -> x.load(0));
        x.advance(1);
        Check.due("34: three in four", 0.75, () -> x.load(0));
        x.advance(4);
        Check.due("34: three in six", 0.5, () -> x.load(0));
        x.advance(2);
        Check.due("34: three in seven", 3.0 / 7.0, () -> x.load(0));
        x.ski(0, 0);
        x.ski(1, 0);
        Check.due("31: two began it", 2, () -> x.pisteAccount(0));
        Check.due("30: one piste", 1, () -> x.guestAccount(0, 1));
        Check.due("30: no refusals", 0, () -> x.guestAccount(0, 2));
        Check.due("32: they add up", 0, x::audit);
        Check.due("33: the only one", 0, x::busiest);
        x.endDay();
        Check.due("32: behind a day too", 0, x::audit);
        Check.due("31: behind a day too", 2, () -> x.pisteAccount(0));
        Check.refused("29: account 2", ARGUMENT, () -> x.liftAccount(0, 2));
        Check.refused("29: account -1", ARGUMENT, () -> x.liftAccount(0, -1));
        Check.refused("29: lift 1", INDEX, () -> x.liftAccount(1, 2));
        Check.refused("29: lift -1", INDEX, () -> x.liftAccount(-1, 0));
        Check.refused("30: account 3", ARGUMENT, () -> x.guestAccount(0, 3));
        Check.refused("30: account -1", ARGUMENT, () -> x.guestAccount(0, -1));
        Check.refused("30: guest 3", INDEX, () -> x.guestAccount(3, 3));
        Check.refused("30: guest -1", INDEX, () -> x.guestAccount(-1, 0));
        Check.refused("31: piste 1", INDEX, () -> x.pisteAccount(1));
        Check.refused("31: piste -1", INDEX, () -> x.pisteAccount(-1));
        Check.refused("34: lift 1", INDEX, () -> x.load(1));
        Check.refused("34: lift -1", INDEX, () -> x.load(-1));
        x.undo();
        Check.due("32: behind undo too", 0, x::audit);
    }

    private static void promise33Busiest() {
        SlopeOperator x = new SlopeOperator();
        for (int lift = 0; lift < 3; lift++) {
            x.addLift(0, 1, 0, 1, 8, 10);
        }
        for (int g = 0; g < 5; g++) {
            x.addGuest(0, 1, 1, 0, 0);
        }
        x.advance(1);
        Check.refused("33: empty cabins alone", NONE, x::busiest);
        x.queue(0, 2);
        Check.refused("33: waiting alone", NONE, x::busiest);
        x.advance(1);
        Check.due("33: the only one", 2, x::busiest);
        x.queue(1, 1);
        x.advance(1);
        Check.due("33: the lowest of several", 1, x::busiest);
        x.queue(2, 2);
        x.advance(1);
        Check.due("33: the most", 2, x::busiest);
    }

    private static int put(SlopeOperator x, String text) {
        int length = 0;
        for (int i = 0; i < text.length(); i++) {
            length = x.append(text.charAt(i));
        }
        return length;
    }

    private static void promise35Append() {
        SlopeOperator x = new SlopeOperator();
        Check.refused("35: code 31", ARGUMENT, () -> x.append((char) 31));
        Check.refused("35: code 127", ARGUMENT, () -> x.append((char) 127));
        Check.refused("35: code 0", ARGUMENT, () -> x.append((char) 0));
        Check.refused("35: code 65535", ARGUMENT, () -> x.append((char) 65535));
        Check.due("35: code 32", 1, () -> x.append((char) 32));
        Check.due("35: code 126", 2, () -> x.append((char) 126));
        for (int i = 3; i <= 60; i++) {
            int k = i;
            Check.due("35: length " + k, k, () -> x.append('a'));
        }
        Check.refused("35: the 61st", STATE, () -> x.append('a'));
        Check.refused("35: a wrong 61st", ARGUMENT, () -> x.append((char) 200));
        Check.refused("35: it is no change", NONE, x::undo);
        Check.refused("35: and no text", ARGUMENT, x::read);
        Check.due("35: empty afterwards", 1, () -> x.append('a'));
    }

    private static void promise36Read() {
        SlopeOperator x = new SlopeOperator();
        x.addLift(3, 4, 3, 1, 8, 20);
        x.addPiste(4, 3, 2, 2);
        x.endDay();
        put(x, "g31;g32;g43;q0-0;q1-0;s2-0;w5;t1;");
        Check.due("36: entries", 8, x::read);
        Check.due("36: guests", 3, () -> x.count(2));
        Check.due("36: the zones", 15, () -> x.guest(0, 4));
        Check.due("36: the first day", 1, () -> x.guest(0, 5));
        Check.due("36: the last day", 1, () -> x.guest(0, 6));
        Check.due("36: the skill", 3, () -> x.guest(2, 3));
        Check.due("36: riding", 2, () -> x.lift(0, 10));
        Check.due("36: skiing", 1, () -> x.piste(0, 7));
        Check.due("36: the wind", 5, () -> x.count(3));
        Check.due("36: the ticks", 1, () -> x.count(4));
        Check.due("36: empty afterwards", 1, () -> x.append('t'));
        put(x, "9;");
        Check.due("36: one entry", 1, x::read);
        Check.due("36: 9 ticks more", 10, () -> x.count(4));
        put(x, "w0;w1;w2;w3;w4;w5;w6;w7;w8;w9;w0;w1;w2;w3;w4;w5;w6;w7;w8;w3;");
        Check.due("36: 20 entries", 20, x::read);
        Check.due("36: the last wind", 3, () -> x.count(3));
        for (int g = 3; g < 16; g++) {
            put(x, "g41;");
        }
        Check.due("36: 13 guests", 13, x::read);
        put(x, "s15-0;s9-0;");
        Check.due("36: guests with two digits and one", 2, x::read);
        Check.due("36: guest 15 skis", 3, () -> x.guest(15, 0));
        Check.due("36: guest 9 skis", 3, () -> x.guest(9, 0));
        put(x, "s1-0;");
        Check.refused("36: guest 1 is where the piste ends? no", IllegalStateException.class, () -> {
            x.leave(1);
            return x.read();
        });
        Check.due("36: guest 1 is away", 1, x::reason);
    }

    private static void promise36ReadsNothingOfIt() {
        SlopeOperator x = new SlopeOperator();
        x.addLift(0, 1, 0, 1, 8, 10);
        x.addPiste(0, 1, 3, 1);
        x.addGuest(0, 1, 1, 0, 0);
        String[] impossible = {"w4;q1-0;", "w4;q0-1;", "w4;s1-0;", "w4;s0-1;", "w4;q15-5;"};
        for (String text : impossible) {
            put(x, text);
            Check.refused("36: impossible " + text, STATE, x::read);
            Check.refused("36: no reason by " + text, NONE, x::reason);
            Check.due("36: no wind by " + text, 0, () -> x.count(3));
            Check.due("36: empty behind " + text, 1, () -> x.append('x'));
            Check.refused("36: no text", ARGUMENT, x::read);
        }
        put(x, "g01;w2;t3;q1-0;s0-0;");
        Check.refused("36: a refusal at its end", STATE, x::read);
        Check.due("36: its reason", 7, x::reason);
        Check.due("36: no guest by it", 1, () -> x.count(2));
        Check.due("36: no tick by it", 0, () -> x.count(4));
        Check.due("36: no cabin by it", 0, () -> x.liftAccount(0, 1));
        Check.due("36: no refusal by it", 0, () -> x.guestAccount(0, 2));
        put(x, "g01;q1-0;q1-0;");
        Check.refused("36: a refusal behind those before it", STATE, x::read);
        Check.due("36: not at a station", 1, x::reason);
        put(x, "w9;q0-0;");
        Check.refused("36: held by the text", STATE, x::read);
        Check.due("36: held", 4, x::reason);
        Check.due("36: three changes as before", 2, x::undo);
        SlopeOperator full = new SlopeOperator();
        put(full, "g01;g01;g01;g01;g01;g01;g01;g01;g01;g01;g01;g01;g01;g01;g01;");
        Check.due("36: 15 guests", 15, full::read);
        put(full, "g01;g01;");
        Check.refused("36: the seventeenth", STATE, full::read);
        Check.due("36: not the sixteenth either", 15, () -> full.count(2));
        put(full, "g01;");
        Check.due("36: the sixteenth", 1, full::read);
        for (int i = 0; i < 19; i++) {
            full.advance(50);
        }
        full.advance(41);
        put(full, "w1;t9;t1;");
        Check.refused("36: tick 1001", STATE, full::read);
        Check.due("36: still tick 991", 991, () -> full.count(4));
        put(full, "t9;");
        Check.due("36: tick 1000", 1, full::read);
        Check.refused("36: no reason by all that", NONE, full::reason);
    }

    private static void promise36OneChange() {
        SlopeOperator x = new SlopeOperator();
        for (int wind = 1; wind <= 9; wind++) {
            x.setWind(wind);
        }
        put(x, "w1;q0-0;");
        Check.refused("36: a text that cannot be done", STATE, x::read);
        put(x, "w1;w2");
        Check.refused("36: no text", ARGUMENT, x::read);
        for (int left = 7; left >= 0; left--) {
            int k = left;
            Check.due("36: they forget no change", k, x::undo);
        }
        Check.due("36: but for the oldest", 1, () -> x.count(3));
        put(x, "w5;g01;t2;");
        x.read();
        Check.due("36: a text is one change", 0, x::undo);
        Check.due("36: the wind is back", 1, () -> x.count(3));
        Check.due("36: the guest is gone", 0, () -> x.count(2));
        Check.due("36: the tick is back", 0, () -> x.count(4));
        for (int i = 0; i < 9; i++) {
            put(x, "w" + i + ";");
            x.read();
        }
        Check.due("36: at most 8 changes", 7, x::undo);
    }

    private static void promise37ErrorPosition() {
        SlopeOperator x = new SlopeOperator();
        Check.refused("37: none yet", NONE, x::errorPosition);
        Object[][] wrong = {
            {"", 0}, {" ", 0}, {";", 0}, {"a", 0}, {"G01;", 0}, {"g", 1}, {"g8", 1}, {"g84;", 1}, {"g0", 2}, {"g00;", 2},
            {"g04;", 2}, {"g01", 3}, {"g011;", 3}, {"g01;;", 4}, {"g01; ", 4}, {"g01;x", 4}, {"g01;g", 5}, {"q", 1},
            {"q;", 1}, {"q-0;", 1}, {"q0", 2}, {"q01-0;", 2}, {"q00-0;", 2}, {"q1", 2}, {"q16-0;", 2}, {"q15", 3},
            {"q15;", 3}, {"q150-0;", 3}, {"q20-0;", 2}, {"q9-", 3}, {"q9-6;", 3}, {"q9-5", 4}, {"q9-50;", 4},
            {"q10-0", 5}, {"q1-0", 4}, {"q1-6;", 3}, {"q--1;", 1}, {"s0-a;", 3}, {"s0-9", 4}, {"s0-99;", 4}, {"s19-1;", 2},
            {"s12-", 4}, {"w", 1}, {"w;", 1}, {"wa;", 1}, {"w9", 2}, {"w10;", 2}, {"t", 1}, {"t0;", 1}, {"t9", 2},
            {"t10;", 2}, {"t-1;", 1}, {"w1;w2", 5}, {"r1;", 0}, {"h01;", 0}, {"p0-0;", 0}, {"u1;", 0}, {"v1;", 0}, {"x1;", 0}};
        for (Object[] w : wrong) {
            put(x, (String) w[0]);
            Check.refused("37: no text '" + w[0] + "'", ARGUMENT, x::read);
            Check.due("37: the error of '" + w[0] + "'", w[1], x::errorPosition);
        }
        put(x, "w1;");
        x.read();
        Check.due("37: it stays with a text", 0, x::errorPosition);
        put(x, "q0-0;");
        Check.refused("37: a text that cannot be done", STATE, x::read);
        Check.due("37: it stays with that too", 0, x::errorPosition);
        put(x, "w1;w1;w1;w1;w1;w1;w1;w1;w1;w1;w1;w1;w1;w1;w1;w1;w1;w1;w1;w1x");
        Check.refused("37: 60 characters", ARGUMENT, x::read);
        Check.due("37: wrong at the last", 59, x::errorPosition);
        put(x, "w1;w1;w1;w1;w1;w1;w1;w1;w1;w1;w1;w1;w1;w1;w1;w1;w1;w1;g01;g0");
        Check.refused("37: 60 characters without an end", ARGUMENT, x::read);
        Check.due("37: the length", 60, x::errorPosition);
        x.save();
        x.clear();
        x.restore();
        Check.due("37: it stays with clear and restore", 60, x::errorPosition);
    }

    private static void promise38Undo() {
        SlopeOperator x = new SlopeOperator();
        Check.refused("38: nothing yet", NONE, x::undo);
        x.addLift(0, 1, 0, 1, 8, 10);
        x.addGuest(0, 1, 0, 0, 0);
        put(x, "w");
        x.save();
        x.advance(3);
        Check.refused("38: a refusal", UnsupportedOperationException.class, () -> x.queue(0, 0));
        Check.due("38: it counts", 1, () -> x.guestAccount(0, 2));
        Check.due("38: the ticks", 2, x::undo);
        Check.due("38: the clock is back", 0, () -> x.lift(0, 8));
        Check.due("38: the cabins are back", 0, () -> x.liftAccount(0, 1));
        Check.due("38: the tick number is back", 0, () -> x.count(4));
        Check.due("38: the refusals are as before the change", 0, () -> x.guestAccount(0, 2));
        Check.due("38: the reason stays", 3, x::reason);
        Check.due("38: the input stays", 2, () -> x.append('7'));
        Check.refused("38: a refusal before a change", UnsupportedOperationException.class, () -> x.queue(0, 0));
        x.setWind(4);
        Check.due("38: the wind", 2, x::undo);
        Check.due("38: the refusal before it stays", 1, () -> x.guestAccount(0, 2));
        Check.due("38: the guest", 1, x::undo);
        Check.due("38: no guest", 0, () -> x.count(2));
        Check.due("38: the lift", 0, x::undo);
        Check.refused("38: nothing more", NONE, x::undo);
        Check.due("38: what was saved stays", 1, x::restore);
        Check.refused("38: restore forgets", NONE, x::undo);
        for (int i = 0; i < 30; i++) {
            x.setWind(i % 10);
        }
        for (int left = 7; left >= 0; left--) {
            int k = left;
            Check.due("38: at most 8", k, x::undo);
            Check.due("38: the wind before", (21 + k) % 10, () -> x.count(3));
        }
        Check.refused("38: not more than 8", NONE, x::undo);
    }

    private static void promise38EveryChange() {
        SlopeOperator x = new SlopeOperator();
        int[] changes = {0};
        change(x, changes, "addLift", () -> x.addLift(0, 1, 0, 1, 8, 10));
        change(x, changes, "addPiste", () -> x.addPiste(0, 1, 1, 1));
        change(x, changes, "addGuest", () -> x.addGuest(0, 1, 1, 0, 9));
        change(x, changes, "setWind", () -> x.setWind(0));
        change(x, changes, "open", () -> x.open(0, true));
        change(x, changes, "leave", () -> x.leave(x.addGuest(0, 1, 1, 0, 9)), 2);
        change(x, changes, "endDay", x::endDay);
        x.clear();
        changes[0] = 0;
        x.addLift(0, 1, 0, 1, 8, 10);
        x.addPiste(0, 1, 1, 1);
        x.addGuest(0, 1, 1, 0, 9);
        x.save();
        x.restore();
        change(x, changes, "queue", () -> x.queue(0, 0));
        change(x, changes, "leave", () -> x.leave(0));
        change(x, changes, "ski", () -> x.ski(0, 0));
        change(x, changes, "advance", () -> x.advance(1));
        change(x, changes, "close", () -> x.open(0, false));
        change(x, changes, "groom", () -> x.groom(0));
        put(x, "w0;");
        change(x, changes, "read", x::read);
        x.save();
        x.audit();
        x.whyNotQueue(0, 0);
        Check.due("38: questions and save are none", 6, x::undo);
    }

    private static void change(SlopeOperator x, int[] changes, String name, Check.Call call) {
        change(x, changes, name, call, 1);
    }

    /** The call is done, told by undo, and done again. */
    private static void change(SlopeOperator x, int[] changes, String name, Check.Call call, int howMany) {
        Object first = call.answer();
        changes[0] += howMany;
        Check.due("38: " + name + " is a change", changes[0] - 1, x::undo);
        if (howMany > 1) {
            x.undo();
        }
        if (name.equals("read")) {
            put(x, "w0;");
        }
        Check.due("38: " + name + " again", first, call);
    }

    private static void promise39And40SaveAndRestore() {
        SlopeOperator x = new SlopeOperator();
        Check.refused("40: nothing saved", STATE, x::restore);
        Check.due("39: nobody", 0, x::save);
        x.addLift(0, 1, 0, 1, 8, 10);
        x.addPiste(0, 1, 1, 5);
        x.addGuest(0, 1, 1, 0, 9);
        x.addGuest(0, 1, 1, 0, 9);
        x.queue(0, 0);
        x.ski(1, 0);
        x.advance(1);
        Check.refused("39: a refusal", UnsupportedOperationException.class, () -> x.ski(0, 0));
        Check.due("39: two guests", 2, x::save);
        Check.due("39: it forgets no change", 6, x::undo);
        x.endDay();
        x.setWind(9);
        x.addGuest(0, 1, 1, 0, 9);
        Check.due("40: two guests", 2, x::restore);
        Check.due("40: the wind", 0, () -> x.count(3));
        Check.due("40: the tick number", 1, () -> x.count(4));
        Check.due("40: the day number", 0, () -> x.count(5));
        Check.due("40: riding", 2, () -> x.guest(0, 0));
        Check.due("40: skiing", 4, () -> x.guest(1, 2));
        Check.due("40: the wear", 1, () -> x.piste(0, 5));
        Check.due("40: the refusals", 1, () -> x.guestAccount(0, 2));
        Check.refused("40: the changes are forgotten", NONE, x::undo);
        x.advance(9);
        Check.due("40: it stays saved", 2, x::restore);
        Check.due("40: as it was", 1, () -> x.count(4));
        x.clear();
        Check.due("39: what was saved before is replaced", 0, x::save);
        x.addGuest(0, 1, 1, 0, 9);
        Check.due("40: the newer one", 0, x::restore);
        Check.due("40: without lifts", 0, () -> x.count(0));
    }

    private static SlopeOperator busyArea() {
        SlopeOperator x = new SlopeOperator();
        x.addLift(2, 3, 1, 2, 1, 41);
        x.addPiste(2, 4, 2, 6);
        x.addPiste(4, 2, 3, 5);
        x.addGuest(2, 1, 2, 0, 7);
        x.addGuest(2, 2, 3, 0, 8);
        x.addGuest(2, 3, 15, 3, 9);
        x.queue(0, 0);
        x.queue(1, 0);
        x.ski(2, 0);
        x.open(1, false);
        x.advance(4);
        x.groom(1);
        x.setWind(5);
        x.advance(1);
        x.open(1, false);
        x.groom(1);
        Check.refused("40: a refusal", UnsupportedOperationException.class, () -> x.ski(1, 0));
        return x;
    }

    private static String allNumbers(SlopeOperator x) {
        StringBuilder all = new StringBuilder();
        for (int k = 0; k < 12; k++) {
            all.append(x.count(k)).append(' ');
        }
        for (int i = 0; i < x.count(0); i++) {
            for (int k = 0; k < 11; k++) {
                all.append(x.lift(i, k)).append(' ');
            }
            all.append(x.liftAccount(i, 0)).append(' ').append(x.liftAccount(i, 1)).append(", ");
        }
        for (int i = 0; i < x.count(1); i++) {
            for (int k = 0; k < 8; k++) {
                all.append(x.piste(i, k)).append(' ');
            }
            all.append(x.pisteAccount(i)).append(", ");
        }
        for (int i = 0; i < x.count(2); i++) {
            for (int k = 0; k < 7; k++) {
                all.append(x.guest(i, k)).append(' ');
            }
            for (int k = 0; k < 3; k++) {
                all.append(x.guestAccount(i, k)).append(' ');
            }
            all.append(", ");
        }
        return all.toString();
    }

    private static final String BUSY = "1 2 3 5 5 0 0 0 2 1 0 1 2 3 1 2 1 4 1 1 1 0 2 2 2, "
            + "2 4 2 6 0 2 0 1 1, 4 2 3 5 2 0 1 0 0, 2 0 3 1 2 0 7 1 0 0 , 2 0 7 2 3 0 8 1 0 1 , 3 0 1 3 15 3 9 0 1 0 , ";

    private static void promise40RestoresEveryNumber() {
        SlopeOperator x = busyArea();
        Check.due("40: every number at first", BUSY, () -> allNumbers(x));
        Check.due("39: three guests", 3, x::save);
        x.clear();
        otherArea(x);
        Check.due("40: three guests", 3, x::restore);
        Check.due("40: every number is restored", BUSY, () -> allNumbers(x));
        x.setWind(0);
        otherEnd(x);
        for (int left = 7; left >= 0; left--) {
            x.undo();
        }
        Check.due("38: every number is back", BUSY, () -> allNumbers(x));
    }

    private static void otherArea(SlopeOperator x) {
        for (int i = 0; i < 3; i++) {
            x.addLift(7, 6, 3, 1, 8, 90);
            x.addPiste(7, 5, 1, 9);
            x.addGuest(7, 2, 8, 0, 1);
            x.addGuest(7, 2, 8, 0, 1);
        }
        x.queue(1, 0);
        x.ski(2, 1);
        x.setWind(3);
        x.advance(9);
    }

    /** 7 changes, which touch every lift, piste and guest of the busy area. */
    private static void otherEnd(SlopeOperator x) {
        x.advance(9);
        x.ski(2, x.addPiste(4, 5, 1, 1));
        x.open(0, false);
        x.groom(0);
        x.endDay();
        x.addGuest(1, 1, 1, 1, 1);
    }

    private static void promise2NewRowsBeginAnew() {
        SlopeOperator x = busyArea();
        x.addGuest(2, 1, 15, 0, 9);
        x.queue(3, 0);
        x.clear();
        x.addLift(0, 1, 0, 6, 1, 10);
        x.addPiste(0, 1, 1, 1);
        x.addPiste(0, 1, 1, 1);
        for (int g = 0; g < 4; g++) {
            x.addGuest(0, 1, 0, 0, 0);
        }
        Check.due("2: new rows have nothing of the old ones", "1 2 4 0 0 0 4 0 0 0 0 2 0 1 0 6 1 1 0 0 0 0 0 0 0, "
                + "0 1 1 1 0 0 0 0 0, 0 1 1 1 0 0 0 0 0, 0 0 0 1 0 0 0 0 0 0 , 0 0 0 1 0 0 0 0 0 0 , "
                + "0 0 0 1 0 0 0 0 0 0 , 0 0 0 1 0 0 0 0 0 0 , ", () -> allNumbers(x));
    }
}
