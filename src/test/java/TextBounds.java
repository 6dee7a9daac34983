/** Sentences about texts, and about the promises 35 to 37. */
final class TextBounds extends Bounds {
    /** A text that begins like this, and the characters that can follow. */
    private static final String[][] CAN_FOLLOW = {
        {"", "gqswt"}, {"g", "01234567"}, {"g0", "123"}, {"g7", "123"}, {"g01", ";"}, {"g73", ";"}, {"g01;", "gqswt"},
        {"q", "0123456789"}, {"q0", "-"}, {"q1", "-012345"}, {"q2", "-"}, {"q3", "-"}, {"q4", "-"}, {"q5", "-"},
        {"q6", "-"}, {"q7", "-"}, {"q8", "-"}, {"q9", "-"}, {"q10", "-"}, {"q11", "-"}, {"q12", "-"}, {"q13", "-"},
        {"q14", "-"}, {"q15", "-"}, {"q0-", "012345"}, {"q15-", "012345"}, {"q0-0", ";"}, {"q15-5", ";"},
        {"q0-0;", "gqswt"}, {"s", "0123456789"}, {"s0", "-"}, {"s1", "-012345"}, {"s2", "-"}, {"s9", "-"}, {"s10", "-"},
        {"s15", "-"}, {"s0-", "0123456789"}, {"s15-", "0123456789"}, {"s0-0", ";"}, {"s15-9", ";"}, {"s0-0;", "gqswt"},
        {"w", "0123456789"}, {"w0", ";"}, {"w9", ";"}, {"w0;", "gqswt"}, {"t", "123456789"}, {"t1", ";"}, {"t9", ";"},
        {"t9;", "gqswt"}, {"w3;q1", "-012345"}, {"t1;s15-9;w0;g73;q9-5;", "gqswt"}};

    private TextBounds() {
    }

    static void ask() {
        sixtyCharacters();
        append();
        whatCanFollow();
        cutOff();
        guestsOfTexts();
        errorExamples();
        errorPositionOfFullBuffers();
        entries();
        guestsByTexts();
        inTheirOrder();
        emptyAfterwards();
        oneChange();
        impossibleEntries();
        refusalsByTexts();
        errorPosition();
    }

    private static void sixtyCharacters() {
        sentence("Text", "The input is a buffer of at most 60 characters.");
        SlopeOperator x = new SlopeOperator();
        due("59 characters", 59, () -> put(x, repeat("w", 59)));
        due("the 60th", 60, () -> x.append('w'));
        refused("the 61st", STATE, () -> x.append('w'));
        refused("still 60", STATE, () -> x.append(';'));
        Told.answer(x::read);
        due("a whole buffer again", 60, () -> put(x, repeat("w7;", 20)));
        refused("the 61st again", STATE, () -> x.append('w'));
        due("all of it is read", 20, x::read);
    }

    private static void append() {
        sentence("35", "Appends a character to the input.", "- `character`: the character, with a code from 32 to 126",
                "Returns the new length of the input.");
        for (int code : range(32, 126)) {
            SlopeOperator x = new SlopeOperator();
            due("code " + code, 1, () -> x.append((char) code));
            due("code " + code + " once more", 2, () -> x.append((char) code));
        }
        SlopeOperator x = new SlopeOperator();
        for (int length : range(1, 60)) {
            due("length " + length, length, () -> x.append(' '));
        }
        sentence("35", "Throws `IllegalStateException` if the input has 60 characters");
        refused("60 characters", STATE, () -> x.append(' '));
        sentence("35", "Throws `IllegalArgumentException` if the character code is out of range");
        for (int code : new int[] {0, 10, 31, 127, 128, 255, 256, 288, 32767, 32768, 65535}) {
            refused("code " + code, ARGUMENT, () -> new SlopeOperator().append((char) code));
            refused("code " + code + " and 60 characters", ARGUMENT, () -> x.append((char) code));
        }
        SlopeOperator y = new SlopeOperator();
        y.append('w');
        Told.answer(() -> y.append((char) 31));
        Told.answer(() -> y.append((char) 127));
        due("a wrong one is not appended", 2, () -> y.append('4'));
        due("a wrong one does not stand in the text", 3, () -> y.append(';'));
        due("the text", 1, y::read);
    }

    /** Each of all characters, behind each kind of beginning. */
    private static void whatCanFollow() {
        sentence("36", "Throws `IllegalArgumentException` if the input is not a text of this kind; the error position is");
        refused("a semicolon is missing", ARGUMENT, () -> readText(new SlopeOperator(), "w1"));
        refused("the empty input", ARGUMENT, () -> new SlopeOperator().read());
        due("a text", 1, () -> readText(new SlopeOperator(), "w1;"));
        sentence("Text", "A text consists of one or several entries, each followed by a semicolon",
                "The error position of a text that is not like this is the smallest index k");
        for (String[] rule : CAN_FOLLOW) {
            for (int code : range(32, 126)) {
                String text = rule[0] + (char) code;
                boolean canStand = rule[1].indexOf(code) >= 0;
                if (canStand && code == ';') {
                    due("'" + text + "' is a text", "a text", () -> textOrNot(text));
                } else {
                    due("'" + text + "'", "error " + (canStand ? text.length() : text.length() - 1), () -> textOrNot(text));
                }
                if (!canStand) {
                    due("'" + text + "w1;'", "error " + (text.length() - 1), () -> textOrNot(text + "w1;"));
                }
            }
        }
    }

    private static String textOrNot(String text) {
        SlopeOperator x = new SlopeOperator();
        put(x, text);
        String answer = Told.answer(x::read);
        return answer.equals("IllegalArgumentException") ? "error " + x.errorPosition() : "a text";
    }

    private static void cutOff() {
        String text = "g01;q15-5;s9-9;w0;t9;";
        for (int length : range(0, text.length())) {
            String part = text.substring(0, length);
            boolean isText = length > 0 && part.charAt(length - 1) == ';';
            due("'" + part + "'", isText ? "a text" : "error " + length, () -> textOrNot(part));
        }
        due("the empty input", "error 0", () -> textOrNot(""));
        due("a semicolon alone", "error 0", () -> textOrNot(";"));
        due("two semicolons", "error 3", () -> textOrNot("w1;;"));
        due("a space in front", "error 0", () -> textOrNot(" w1;"));
        due("a space behind", "error 3", () -> textOrNot("w1; "));
        due("a great letter", "error 0", () -> textOrNot("W1;"));
    }

    private static void guestsOfTexts() {
        sentence("Text", "Guests have one or two digits, from 0 to 15, without leading zeros; each digit that can follow");
        for (int guest : range(0, 15)) {
            SlopeOperator x = Areas.waiting(16, 0, 6, 8, 90);
            x.addPiste(0, 1, 1, 9);
            due("guest " + guest + " queues", 1, () -> readText(x, "q" + guest + "-0;"));
            due("guest " + guest + " is in the queue", guest, () -> x.queued(0, 0));
            due("guest " + guest + " skis", 1, () -> readText(x, "s" + (15 - guest) + "-0;"));
            due("guest " + guest + " is skiing", 3, () -> x.guest(15 - guest, 0));
        }
        for (int guest : range(16, 109)) {
            String text = "" + guest;
            due("guest " + text, "error " + (guest < 100 ? 2 : 3), () -> textOrNot("q" + text + "-0;"));
        }
        for (int digit : range(0, 9)) {
            due("a leading zero, " + digit, "error 2", () -> textOrNot("s0" + digit + "-0;"));
            due("a third digit " + digit, "error 3", () -> textOrNot("s15" + digit + "-0;"));
        }
        for (int lift : range(0, 5)) {
            SlopeOperator x = new SlopeOperator();
            for (int i : range(0, 5)) {
                x.addLift(0, 1, 0, 6, 8, 90);
            }
            addGuests(x, 2, 0, 1);
            due("lift " + lift, 1, () -> readText(x, "q1-" + lift + ";"));
            due("in its queue", 1, () -> x.lift(lift, 9));
        }
        for (int piste : range(0, 9)) {
            SlopeOperator x = new SlopeOperator();
            for (int i : range(0, 9)) {
                x.addPiste(0, 1, 1, 9);
            }
            addGuests(x, 2, 0, 1);
            due("piste " + piste, 1, () -> readText(x, "s1-" + piste + ";"));
            due("on it", 1, () -> x.piste(piste, 7));
        }
    }

    private static void errorExamples() {
        sentence("More precisely", "A digit of a guest that cannot stand is the error at its place: 16 at the 6");
        due("16", "error 2", () -> textOrNot("q16-0;"));
        due("01", "error 2", () -> textOrNot("q01-0;"));
        due("16 skis", "error 2", () -> textOrNot("s16-0;"));
        due("01 skis", "error 2", () -> textOrNot("s01-0;"));
        due("16 as second entry", "error 5", () -> textOrNot("w1;q16-0;"));
        due("15", "a text", () -> textOrNot("q15-0;"));
        due("10", "a text", () -> textOrNot("q10-0;"));
    }

    private static void errorPositionOfFullBuffers() {
        sentence("Text", "The error position of a text that is not like this is the smallest index k");
        due("60 characters, wrong at the first", "error 0", () -> textOrNot("x" + repeat("w1;", 19) + "w1"));
        due("60 characters, wrong at the last", "error 59", () -> textOrNot(repeat("w1;", 19) + "w1x"));
        due("60 characters, cut off", "error 60", () -> textOrNot(repeat("w1;", 18) + "g01;q1"));
        due("60 characters, cut off behind its kind", "error 60", () -> textOrNot(repeat("q0-0;", 11) + "w1;t1"));
        due("59 characters, cut off", "error 59", () -> textOrNot(repeat("w1;", 19) + "w1"));
    }

    private static void entries() {
        sentence("36", "Does what the entries of the text in the input tell, in their order, or nothing of it.",
                "Returns the number of entries.");
        for (int number : range(1, 20)) {
            SlopeOperator x = new SlopeOperator();
            due(number + " entries", number, () -> readText(x, repeat("t1;", number)));
            due(number + " ticks", number, () -> x.count(4));
        }
        SlopeOperator x = Areas.waiting(12, 0, 6, 8, 90);
        x.addPiste(0, 1, 1, 9);
        String five = "q0-0;q1-0;q2-0;q3-0;q4-0;s5-0;s6-0;s7-0;s8-0;s9-0;";
        due("60 characters, most entries with 5", 13, () -> readText(x, five + "g01;w1;t1;"));
        due("5 wait", 5, () -> x.lift(0, 9));
        due("5 ski", 5, () -> x.piste(0, 7));
        due("a guest more", 13, () -> x.count(2));
        SlopeOperator y = new SlopeOperator();
        due("60 characters, 4 each", 15, () -> readText(y, repeat("g73;", 15)));
        due("15 guests", 15, () -> y.count(2));
        SlopeOperator z = Areas.waiting(16, 0, 6, 8, 90);
        String six = "q10-0;q11-0;q12-0;q13-0;q14-0;q15-0;";
        due("60 characters, 6 entries with 6", 14, () -> readText(z, six + repeat("w1;", 8)));
        due("6 wait", 6, () -> z.lift(0, 9));
    }

    private static void guestsByTexts() {
        sentence("Text", "A text consists of one or several entries, each followed by a semicolon");
        for (int station : range(0, 7)) {
            for (int skill : range(1, 3)) {
                SlopeOperator x = new SlopeOperator();
                x.endDay();
                x.endDay();
                due("a guest", 1, () -> readText(x, "g" + station + skill + ";"));
                due("its numbers", "0 " + station + " 0 " + skill + " 15 2 2", () -> guestNumbers(x));
            }
        }
        SlopeOperator x = new SlopeOperator();
        x.addLift(0, 1, 3, 1, 1, 10);
        due("the present day is the last one", 1, () -> readText(x, "g01;"));
        due("all zones", 1, () -> x.opened(0));
        x.endDay();
        due("not the next day", 0, () -> x.opened(0));
        for (int wind : range(0, 9)) {
            due("the wind", 1, () -> readText(x, "w" + wind + ";"));
            due("the wind is told", wind, () -> x.count(3));
        }
        for (int ticks : range(1, 9)) {
            int before = x.count(4);
            due("ticks", 1, () -> readText(x, "t" + ticks + ";"));
            due("so many ticks", before + ticks, () -> x.count(4));
        }
    }

    private static String guestNumbers(SlopeOperator x) {
        StringBuilder all = new StringBuilder();
        for (int what : range(0, 6)) {
            all.append(what > 0 ? " " : "").append(x.guest(0, what));
        }
        return all.toString();
    }

    private static void inTheirOrder() {
        sentence("36", "Does what the entries of the text in the input tell, in their order, or nothing of it.");
        SlopeOperator text = Areas.waiting(3, 0, 2, 1, 10);
        text.addPiste(1, 0, 2, 1);
        SlopeOperator calls = Areas.waiting(3, 0, 2, 1, 10);
        calls.addPiste(1, 0, 2, 1);
        due("a long text", 11, () -> readText(text, "q1-0;q0-0;t3;s1-0;w8;t2;g12;s3-0;w0;t9;q1-0;"));
        calls.queue(1, 0);
        calls.queue(0, 0);
        calls.advance(3);
        calls.ski(1, 0);
        calls.setWind(8);
        calls.advance(2);
        calls.addGuest(1, 2, 15, 0, 0);
        calls.ski(3, 0);
        calls.setWind(0);
        calls.advance(9);
        calls.queue(1, 0);
        due("the same as by calls", Told.numbers(calls), () -> Told.numbers(text));
        SlopeOperator order = new SlopeOperator();
        due("the last wind stays", 3, () -> readText(order, "w9;w0;w4;"));
        due("4", 4, () -> order.count(3));
    }

    private static void emptyAfterwards() {
        sentence("36", "The input is empty afterwards, whatever happens.");
        String[] texts = {"w1;", "w1", "", "q0-0;", "w1;q9-0;", "q1-1;", "t1;x", repeat("w1;", 20), repeat("x", 60)};
        for (String text : texts) {
            SlopeOperator x = Areas.waiting(2, 2, 1, 1, 10);
            put(x, text);
            Told.answer(x::read);
            due("behind '" + text + "'", 1, () -> x.append('w'));
            due("behind '" + text + "', a new text", 1, () -> readText(x, "6;"));
            due("behind '" + text + "', its wind", 6, () -> x.count(3));
        }
    }

    private static void oneChange() {
        sentence("36", "It is one change.");
        SlopeOperator x = new SlopeOperator();
        readText(x, "g01;w3;t4;w5;g02;");
        due("undone at once", 0, x::undo);
        due("all numbers", Told.numbers(new SlopeOperator()), () -> Told.numbers(x));
        refused("nothing more", NONE, x::undo);
        SlopeOperator y = new SlopeOperator();
        for (int i : range(1, 9)) {
            readText(y, "w" + i + ";w" + (9 - i) + ";");
        }
        due("at most 8", 7, y::undo);
        due("the one before", 1, () -> y.count(3));
        SlopeOperator none = new SlopeOperator();
        none.setWind(2);
        Told.answer(() -> readText(none, "w7;q0-0;"));
        Told.answer(() -> readText(none, "w7"));
        Told.answer(none::read);
        due("one that throws is none", 0, none::undo);
    }

    private static void impossibleEntries() {
        sentence("36", "Throws `IllegalStateException` if the call for an entry, behind those before it, would throw");
        String[] texts = {"q0-0;", "q3-0;", "q0-1;", "s3-0;", "s0-1;", "s0-0;", "q2-0;", "t9;t9;t9;t9;t9;t5;t1;t1;"};
        for (String text : texts) {
            for (String before : new String[] {"", "g01;", "w3;", "t1;", "w9;"}) {
                SlopeOperator x = impossible();
                String numbers = Told.numbers(x);
                boolean isThere = before.equals("g01;") && (text.startsWith("q3") || text.startsWith("s3"));
                due("'" + before + text + "'", isThere ? "2" : "IllegalStateException", () -> {
                    put(x, before + text);
                    return Told.answer(x::read);
                });
                if (!isThere) {
                    due("nothing of '" + before + text + "'", numbers, () -> Told.numbers(x));
                }
            }
        }
        SlopeOperator x = impossible();
        due("50 ticks are possible", 6, () -> readText(x, "t9;t9;t9;t9;t9;t5;"));
        SlopeOperator full = Areas.full();
        full.read();
        full.setWind(2);
        refused("a guest too many", STATE, () -> readText(full, "w1;g01;"));
        refused("a tick too many", STATE, () -> readText(full, "w1;t1;"));
        refused("no such lift", STATE, () -> readText(impossible(), "w1;q2-5;"));
        refused("no such piste", STATE, () -> readText(impossible(), "w1;s2-9;"));
        due("the wind of none of them stays", 2, () -> full.count(3));
        refused("no reason by all that", NONE, full::reason);
    }

    /** Guest 0 waits, guest 1 is away, guest 2 is at 7; the tick number is 950. */
    private static SlopeOperator impossible() {
        SlopeOperator x = new SlopeOperator();
        x.addLift(0, 1, 0, 6, 8, 93);
        x.addPiste(0, 1, 1, 9);
        addGuests(x, 2, 0, 1);
        x.addGuest(7, 1, 15, 0, 9);
        x.setWind(9);
        advanceBy(x, 950);
        x.setWind(0);
        x.queue(0, 0);
        x.leave(1);
        return x;
    }

    private static void refusalsByTexts() {
        sentence("36", "Throws `IllegalStateException` if the call for an entry, behind those before it, would throw");
        String[] texts = {"q0-0;", "w1;q2-0;", "t1;q3-0;", "w9;q11-0;", "q13-0;q14-0;q11-0;", "w2;s4-1;", "t9;s4-0;"};
        for (int reason : range(1, 7)) {
            String text = texts[reason - 1];
            SlopeOperator x = crowded();
            refused("'" + text + "'", STATE, () -> readText(x, text));
            due("the reason of '" + text + "'", reason, x::reason);
            Told.answer(() -> readText(x, "w1;q9-5;"));
            due("it stays with an entry that is impossible otherwise", reason, x::reason);
            Told.answer(() -> readText(x, "w1;q9"));
            due("it stays with what is no text", reason, x::reason);
            sentence("More precisely", "The refusals of guests stay as they were if a text ends with one");
            due("nothing of '" + text + "'", Told.numbers(crowded()), () -> Told.numbers(x));
            Told.answer(() -> x.ski(4, 0));
            due("the refusals of before stay", 1, () -> x.guestAccount(4, 2));
            Told.answer(() -> readText(x, "w1;s4-0;"));
            due("a text counts none more", 1, () -> x.guestAccount(4, 2));
        }
    }

    /** 8 wait, others stand at 0 with and without a ticket and at 7; piste 0 is too difficult, piste 1 is closed. */
    private static SlopeOperator crowded() {
        SlopeOperator x = new SlopeOperator();
        x.addLift(0, 1, 0, 6, 8, 90);
        x.addPiste(0, 1, 3, 9);
        x.addPiste(0, 1, 1, 9);
        x.open(1, false);
        addGuests(x, 2, 0, 1);
        x.addGuest(7, 1, 15, 0, 9);
        x.addGuest(0, 1, 14, 0, 9);
        addGuests(x, 12, 0, 1);
        for (int guest : new int[] {0, 1, 5, 6, 7, 8, 9, 10}) {
            x.queue(guest, 0);
        }
        return x;
    }

    private static void errorPosition() {
        sentence("37", "Throws `NoSuchElementException` if none was kept");
        SlopeOperator x = crowded();
        refused("none", NONE, x::errorPosition);
        readText(x, "w1;");
        refused("none by a text", NONE, x::errorPosition);
        Told.answer(() -> readText(x, "q0-0;"));
        refused("none by a refusal", NONE, x::errorPosition);
        Told.answer(() -> readText(x, "q0-5;"));
        refused("none by another exception", NONE, x::errorPosition);
        put(x, "g09;");
        refused("none before it is read", NONE, x::errorPosition);
        sentence("37", "Returns the error position that was kept last; it stays until the next text that is not as told",
                "Returns the error position.");
        Told.answer(x::read);
        due("kept", 2, x::errorPosition);
        due("asked again", 2, x::errorPosition);
        readText(x, "w1;w2;");
        due("it stays with a text", 2, x::errorPosition);
        Told.answer(() -> readText(x, "w1;q0-0;"));
        due("it stays with a refusal", 2, x::errorPosition);
        x.undo();
        due("it stays with undo", 2, x::errorPosition);
        x.save();
        x.restore();
        due("it stays with restore", 2, x::errorPosition);
        x.clear();
        due("it stays with clear", 2, x::errorPosition);
        Told.answer(x::read);
        due("the next one, of the empty input", 0, x::errorPosition);
        Told.answer(() -> readText(x, repeat("w1;", 19) + "w1"));
        due("a great one", 59, x::errorPosition);
        Told.answer(() -> readText(x, repeat("w1;", 18) + "g01;g0"));
        due("the greatest one", 60, x::errorPosition);
        Told.answer(() -> readText(x, "t1;t0;"));
        due("the last one", 4, x::errorPosition);
    }
}
