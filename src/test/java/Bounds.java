import java.util.NoSuchElementException;
import java.util.stream.IntStream;

/** What the tests of single sentences have in common. */
abstract class Bounds {
    static final Class<IndexOutOfBoundsException> INDEX = IndexOutOfBoundsException.class;
    static final Class<IllegalArgumentException> ARGUMENT = IllegalArgumentException.class;
    static final Class<IllegalStateException> STATE = IllegalStateException.class;
    static final Class<NoSuchElementException> NONE = NoSuchElementException.class;
    static final Class<UnsupportedOperationException> REFUSED = UnsupportedOperationException.class;

    static final int LEAST = Integer.MIN_VALUE;
    static final int GREATEST = Integer.MAX_VALUE;

    static void sentence(String place, String... starts) {
        Doc.sentence(place, starts);
    }

    static void due(String name, Object want, Check.Call call) {
        Check.due("[" + Doc.latest() + "] " + name, want, call);
    }

    static void refused(String name, Class<? extends RuntimeException> want, Check.Call call) {
        Check.refused("[" + Doc.latest() + "] " + name, want, call);
    }

    /** Both numbers are included. */
    static int[] range(int from, int to) {
        return IntStream.rangeClosed(from, to).toArray();
    }

    static int put(SlopeOperator x, String text) {
        int length = 0;
        for (char character : text.toCharArray()) {
            length = x.append(character);
        }
        return length;
    }

    static int readText(SlopeOperator x, String text) {
        put(x, text);
        return x.read();
    }

    static String repeat(String part, int times) {
        return part.repeat(times);
    }

    /** Adds so many guests of this skill at a station, with a ticket for all zones and days. */
    static void addGuests(SlopeOperator x, int howMany, int station, int skill) {
        for (int i = 0; i < howMany; i++) {
            x.addGuest(station, skill, 15, 0, 1000);
        }
    }

    static void advanceBy(SlopeOperator x, int ticks) {
        for (int left = ticks; left > 0; left -= 50) {
            x.advance(Math.min(left, 50));
        }
    }
}
