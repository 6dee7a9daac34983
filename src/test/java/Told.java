import java.util.ArrayList;
import java.util.List;
import java.util.function.Function;
import java.util.function.Supplier;

/** All that calls can show of an object. Every object that is asked is a new one, and has at most 512 calls. */
final class Told {
    private static final int CALLS_AT_ONCE = 300;

    private Told() {
    }

    static String answer(Check.Call call) {
        try {
            return String.valueOf(call.answer());
        } catch (RuntimeException e) {
            return e.getClass().getSimpleName();
        }
    }

    /** Every number of the area; at most 340 calls. */
    static String numbers(SlopeOperator x) {
        return numbers(x, 3);
    }

    /** With only the first accounts of the guests, 2 leaves the refusals away. */
    static String numbers(SlopeOperator x, int accounts) {
        StringBuilder all = new StringBuilder();
        int[] counts = new int[12];
        for (int k = 0; k < 12; k++) {
            counts[k] = x.count(k);
            all.append(counts[k]).append(' ');
        }
        for (int i = 0; i < counts[0]; i++) {
            all.append("\nlift ").append(i).append(": ");
            for (int k = 0; k < 11; k++) {
                all.append(x.lift(i, k)).append(' ');
            }
            all.append(x.liftAccount(i, 0)).append(' ').append(x.liftAccount(i, 1));
        }
        for (int i = 0; i < counts[1]; i++) {
            all.append("\npiste ").append(i).append(": ");
            for (int k = 0; k < 8; k++) {
                all.append(x.piste(i, k)).append(' ');
            }
            all.append(x.pisteAccount(i));
        }
        for (int i = 0; i < counts[2]; i++) {
            all.append("\nguest ").append(i).append(": ");
            for (int k = 0; k < 7; k++) {
                all.append(x.guest(i, k)).append(' ');
            }
            for (int k = 0; k < accounts; k++) {
                all.append(x.guestAccount(i, k)).append(' ');
            }
        }
        return all.toString();
    }

    /** What is asked about the way ahead; the ways are asked for the first and the last guest. */
    private static List<Function<SlopeOperator, Object>> questions(SlopeOperator x) {
        List<Function<SlopeOperator, Object>> all = new ArrayList<>();
        int guests = x.count(2);
        all.add(SlopeOperator::audit);
        all.add(SlopeOperator::busiest);
        for (int lift : Bounds.range(0, x.count(0))) {
            all.add(y -> y.nextCabin(lift));
            all.add(y -> y.load(lift));
            for (int place : Bounds.range(0, 10)) {
                all.add(y -> y.queued(lift, place));
            }
        }
        for (int guest : Bounds.range(0, guests)) {
            all.add(y -> y.opened(guest));
            all.add(y -> y.arrival(guest));
            for (int part : Bounds.range(0, 10)) {
                all.add(y -> y.whyNotQueue(guest, part));
                all.add(y -> y.whyNotSki(guest, part));
            }
        }
        for (int guest : new int[] {0, guests - 1}) {
            for (int from : Bounds.range(0, 7)) {
                all.add(y -> y.reachable(guest, from));
                all.add(y -> y.stranded(guest, from));
                for (int to : Bounds.range(0, 7)) {
                    all.add(y -> y.duration(guest, from, to));
                    all.add(y -> y.firstPart(guest, from, to));
                }
            }
        }
        return all;
    }

    /** All but the reason, the error position, the input and the refusals, which some refused calls change. */
    static String area(Supplier<SlopeOperator> made) {
        return area(made, 2);
    }

    private static String area(Supplier<SlopeOperator> made, int accounts) {
        StringBuilder all = new StringBuilder(numbers(made.get(), accounts));
        List<Function<SlopeOperator, Object>> questions = questions(made.get());
        SlopeOperator x = made.get();
        for (int i = 0; i < questions.size(); i++) {
            if (i % CALLS_AT_ONCE == 0) {
                x = made.get();
            }
            SlopeOperator asked = x;
            Function<SlopeOperator, Object> question = questions.get(i);
            all.append('\n').append(i).append(' ').append(answer(() -> question.apply(asked)));
        }
        for (int back = 1; back <= 9; back++) {
            SlopeOperator y = made.get();
            for (int i = 0; i < back; i++) {
                all.append("\nundo: ").append(answer(y::undo));
            }
            all.append('\n').append(numbers(y, accounts));
        }
        SlopeOperator restored = made.get();
        all.append("\nrestore: ").append(answer(restored::restore)).append(numbers(restored, accounts));
        return all.toString();
    }

    static String everything(Supplier<SlopeOperator> made) {
        SlopeOperator x = made.get();
        SlopeOperator y = made.get();
        return area(made, 3) + "\nreason " + answer(x::reason) + "\nerror " + answer(x::errorPosition) + "\ninput "
                + answer(() -> x.append('!')) + "\nread " + answer(y::read) + " " + answer(y::errorPosition);
    }
}
