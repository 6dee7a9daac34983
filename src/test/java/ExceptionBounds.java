import java.lang.reflect.InvocationTargetException;
import java.lang.reflect.Method;
import java.util.ArrayList;
import java.util.Arrays;
import java.util.LinkedHashMap;
import java.util.List;
import java.util.Map;
import java.util.function.Consumer;
import java.util.function.Supplier;

/** Sentences about exceptions, which hold for all methods. */
final class ExceptionBounds extends Bounds {
    /** What a number can be wrong as, by the exceptions that the document names. */
    private static final int STATION = 0;
    private static final int LIFT = 1;
    private static final int PISTE = 2;
    private static final int GUEST = 3;
    private static final int OTHER = 4;
    private static final int PLACE = 5;

    /** A call that is right in the full area, but for its last exceptions; what its numbers are, and the first wrong ones. */
    private record Asked(String name, int[] right, int[] kinds, int[][] wrong) {
    }

    private ExceptionBounds() {
    }

    static void ask() {
        wrongNumbers();
        severalWrongNumbers();
        lastOfSeveral();
        nothingChanges();
        refusalsChangeLittle();
        wrongTextsChangeLittle();
        questionsChangeNothing();
        masks();
        arrivalBehindTheLastTick();
    }

    private static List<Asked> all() {
        int[] s = {-1, 8};
        int[] l = {-1, 6};
        int[] p = {-1, 10};
        int[] g = {-1, 16};
        List<Asked> all = new ArrayList<>();
        all.add(new Asked("addLift", new int[] {0, 1, 0, 1, 1, 10}, new int[] {STATION, STATION, OTHER, OTHER, OTHER, OTHER},
                new int[][] {s, s, {-1, 4}, {0, 7}, {0, 9}, {9, 94}}));
        all.add(new Asked("addPiste", new int[] {0, 1, 1, 1}, new int[] {STATION, STATION, OTHER, OTHER},
                new int[][] {s, s, {0, 4}, {0, 10}}));
        all.add(new Asked("addGuest", new int[] {0, 1, 0, 0, 0}, new int[] {STATION, OTHER, OTHER, OTHER, OTHER},
                new int[][] {s, {0, 4}, {-1, 16}, {-1, 1001}, {-1, 1001}}));
        all.add(new Asked("setWind", new int[] {1}, new int[] {OTHER}, new int[][] {{-1, 10}}));
        all.add(new Asked("lift", new int[] {0, 0}, new int[] {LIFT, OTHER}, new int[][] {l, {-1, 11}}));
        all.add(new Asked("piste", new int[] {0, 0}, new int[] {PISTE, OTHER}, new int[][] {p, {-1, 8}}));
        all.add(new Asked("groom", new int[] {3}, new int[] {PISTE}, new int[][] {p}));
        all.add(new Asked("count", new int[] {0}, new int[] {OTHER}, new int[][] {{-1, 12}}));
        all.add(new Asked("guest", new int[] {0, 0}, new int[] {GUEST, OTHER}, new int[][] {g, {-1, 7}}));
        all.add(new Asked("queue", new int[] {10, 1}, new int[] {GUEST, LIFT}, new int[][] {g, l}));
        all.add(new Asked("ski", new int[] {13, 6}, new int[] {GUEST, PISTE}, new int[][] {g, p}));
        all.add(new Asked("leave", new int[] {0}, new int[] {GUEST}, new int[][] {g}));
        all.add(new Asked("whyNotQueue", new int[] {0, 0}, new int[] {GUEST, LIFT}, new int[][] {g, l}));
        all.add(new Asked("whyNotSki", new int[] {0, 0}, new int[] {GUEST, PISTE}, new int[][] {g, p}));
        all.add(new Asked("opened", new int[] {0}, new int[] {GUEST}, new int[][] {g}));
        all.add(new Asked("queued", new int[] {0, 0}, new int[] {LIFT, PLACE}, new int[][] {l, {-1, 10}}));
        all.add(new Asked("advance", new int[] {1}, new int[] {OTHER}, new int[][] {{0, 51}}));
        all.add(new Asked("arrival", new int[] {15}, new int[] {GUEST}, new int[][] {g}));
        all.add(new Asked("nextCabin", new int[] {0}, new int[] {LIFT}, new int[][] {l}));
        all.add(new Asked("duration", new int[] {0, 7, 7}, new int[] {GUEST, STATION, STATION}, new int[][] {g, s, s}));
        all.add(new Asked("firstPart", new int[] {0, 0, 1}, new int[] {GUEST, STATION, STATION}, new int[][] {g, s, s}));
        all.add(new Asked("reachable", new int[] {0, 7}, new int[] {GUEST, STATION}, new int[][] {g, s}));
        all.add(new Asked("stranded", new int[] {0, 7}, new int[] {GUEST, STATION}, new int[][] {g, s}));
        all.add(new Asked("liftAccount", new int[] {0, 0}, new int[] {LIFT, OTHER}, new int[][] {l, {-1, 2}}));
        all.add(new Asked("guestAccount", new int[] {0, 0}, new int[] {GUEST, OTHER}, new int[][] {g, {-1, 3}}));
        all.add(new Asked("pisteAccount", new int[] {0}, new int[] {PISTE}, new int[][] {p}));
        all.add(new Asked("load", new int[] {0}, new int[] {LIFT}, new int[][] {l}));
        return all;
    }

    private static Method method(String name) {
        return Arrays.stream(SlopeOperator.class.getMethods()).filter(m -> m.getName().equals(name)).findFirst().orElseThrow();
    }

    private static String answer(SlopeOperator x, String name, int... numbers) {
        Object[] values = Arrays.stream(numbers).boxed().toArray();
        try {
            return String.valueOf(method(name).invoke(x, values));
        } catch (InvocationTargetException e) {
            return e.getCause().getClass().getSimpleName();
        } catch (IllegalAccessException e) {
            return e.toString();
        }
    }

    private static String exceptionOf(int kind) {
        return kind == OTHER ? "IllegalArgumentException" : kind == PLACE ? "NoSuchElementException"
                : "IndexOutOfBoundsException";
    }

    private static int[] with(int[] numbers, int place, int number) {
        int[] copy = numbers.clone();
        copy[place] = number;
        return copy;
    }

    private static int[] wrongOnes(Asked asked, int place) {
        int[] edges = asked.wrong()[place];
        return new int[] {edges[0], edges[1], LEAST, GREATEST};
    }

    /** In the empty area, in a busy and in a full one, each number alone is wrong. */
    private static void wrongNumbers() {
        sentence("Exceptions", "If several exceptions apply, the one that is documented first is thrown.");
        for (Asked asked : all()) {
            for (int k : range(0, asked.right().length - 1)) {
                for (int number : wrongOnes(asked, k)) {
                    int[] numbers = with(asked.right(), k, number);
                    due(asked.name() + Arrays.toString(numbers), exceptionOf(asked.kinds()[k]),
                            () -> answer(Areas.full(), asked.name(), numbers));
                }
            }
        }
        for (int number : new int[] {-1, 10, LEAST, GREATEST}) {
            refused("open " + number, INDEX, () -> Areas.full().open(number, true));
            refused("close " + number, INDEX, () -> Areas.full().open(number, false));
        }
    }

    /** Two numbers are wrong: the exception that the method names first is due. */
    private static void severalWrongNumbers() {
        for (Asked asked : all()) {
            List<String> order = new ArrayList<>();
            for (Class<?> type : method(asked.name()).getExceptionTypes()) {
                order.add(type.getSimpleName());
            }
            for (int k : range(0, asked.right().length - 1)) {
                for (int m : range(k + 1, asked.right().length - 1)) {
                    String first = exceptionOf(asked.kinds()[k]);
                    String second = exceptionOf(asked.kinds()[m]);
                    String want = order.indexOf(second) < order.indexOf(first) ? second : first;
                    for (int one : wrongOnes(asked, k)) {
                        for (int other : wrongOnes(asked, m)) {
                            int[] numbers = with(with(asked.right(), k, one), m, other);
                            due(asked.name() + Arrays.toString(numbers), want,
                                    () -> answer(Areas.full(), asked.name(), numbers));
                        }
                    }
                }
            }
        }
    }

    /** A wrong number comes before what the state forbids, and a lift or guest that is not there before all. */
    private static void lastOfSeveral() {
        SlopeOperator full = Areas.full();
        refused("both stations are the same, and there are 6 lifts", ARGUMENT, () -> full.addLift(1, 1, 0, 1, 1, 10));
        refused("both stations are the same, and there are 10 pistes", ARGUMENT, () -> full.addPiste(1, 1, 1, 1));
        refused("both stations are the same, and do not exist", INDEX, () -> full.addLift(8, 8, 0, 1, 1, 10));
        refused("both stations of a piste are the same, and do not exist", INDEX, () -> full.addPiste(-1, -1, 1, 1));
        refused("6 lifts alone", STATE, () -> full.addLift(0, 1, 0, 1, 1, 10));
        refused("10 pistes alone", STATE, () -> full.addPiste(0, 1, 1, 1));
        refused("16 guests alone", STATE, () -> full.addGuest(0, 1, 0, 0, 0));
        refused("51 ticks behind 1000", ARGUMENT, () -> full.advance(51));
        refused("1 tick behind 1000", STATE, () -> full.advance(1));
        refused("a wrong character behind 60", ARGUMENT, () -> full.append((char) 127));
        refused("a character behind 60", STATE, () -> full.append('~'));
        full.clear();
        refused("what 99 of no lift", INDEX, () -> full.lift(0, 99));
        refused("what 99 of no piste", INDEX, () -> full.piste(0, 99));
        refused("what 99 of no guest", INDEX, () -> full.guest(0, 99));
        refused("account 99 of no lift", INDEX, () -> full.liftAccount(0, 99));
        refused("account 99 of no guest", INDEX, () -> full.guestAccount(0, 99));
        refused("place 99 of no lift", INDEX, () -> full.queued(0, 99));
        refused("the load of no lift", INDEX, () -> full.load(0));
        refused("the cabin of no lift", INDEX, () -> full.nextCabin(0));
        refused("ways of no guest", INDEX, () -> full.firstPart(0, 3, 3));
        refused("the duration for no guest", INDEX, () -> full.duration(0, 3, 3));
        SlopeOperator wrong = Areas.waiting(1, 1, 1, 1, 10);
        refused("a text that is wrong behind an entry that is impossible", ARGUMENT, () -> readText(wrong, "q9-5;w"));
        due("its error", 6, wrong::errorPosition);
    }

    /** Every call throws, and all that is asked afterwards is answered as by an object without that call. */
    private static void nothingChanges() {
        sentence("Exceptions", "A method that throws an exception leaves the state unchanged, unless its documentation");
        Map<String, Supplier<SlopeOperator>> areas = new LinkedHashMap<>();
        areas.put("empty", SlopeOperator::new);
        areas.put("busy", Areas::busy);
        areas.put("full", Areas::full);
        areas.forEach((name, area) -> {
            String before = Told.everything(area);
            for (Asked asked : all()) {
                for (int k : range(0, asked.right().length - 1)) {
                    int number = asked.wrong()[k][1];
                    int[] numbers = with(asked.right(), k, number);
                    unchanged(name + ", " + asked.name() + Arrays.toString(numbers), before, area,
                            x -> answer(x, asked.name(), numbers));
                }
            }
        });
        String full = Told.everything(Areas::full);
        unchanged("6 lifts", full, Areas::full, x -> Told.answer(() -> x.addLift(0, 1, 0, 1, 1, 10)));
        unchanged("10 pistes", full, Areas::full, x -> Told.answer(() -> x.addPiste(0, 1, 1, 1)));
        unchanged("16 guests", full, Areas::full, x -> Told.answer(() -> x.addGuest(0, 1, 0, 0, 0)));
        unchanged("60 characters", full, Areas::full, x -> Told.answer(() -> x.append('w')));
        unchanged("a wrong character", full, Areas::full, x -> Told.answer(() -> x.append((char) 31)));
        unchanged("tick 1000", full, Areas::full, x -> Told.answer(() -> x.advance(1)));
        unchanged("open 10", full, Areas::full, x -> Told.answer(() -> x.open(10, false)));
        unchanged("away", full, Areas::full, x -> Told.answer(() -> x.leave(14)));
        unchanged("skis", full, Areas::full, x -> Told.answer(() -> x.leave(15)));
        unchanged("groom an open one", full, Areas::full, x -> Told.answer(() -> x.groom(0)));
        unchanged("groom a groomed one", full, Areas::full, x -> Told.answer(() -> x.groom(4)));
        unchanged("nobody rode", full, Areas::full, x -> Told.answer(x::busiest));
        unchanged("no cabin", full, Areas::full, x -> Told.answer(() -> x.load(0)));
        String busy = Told.everything(Areas::busy);
        unchanged("a wrong character in a busy area", busy, Areas::busy, x -> Told.answer(() -> x.append((char) 127)));
        unchanged("no such place", busy, Areas::busy, x -> Told.answer(() -> x.queued(1, 0)));
        unchanged("no way", busy, Areas::busy, x -> Told.answer(() -> x.duration(0, 3, 0)));
        unchanged("no first part", busy, Areas::busy, x -> Told.answer(() -> x.firstPart(0, 3, 3)));
        unchanged("no arrival", busy, Areas::busy, x -> Told.answer(() -> x.arrival(7)));
        unchanged("rides", busy, Areas::busy, x -> Told.answer(() -> x.leave(0)));
        String empty = Told.everything(SlopeOperator::new);
        unchanged("no undo", empty, SlopeOperator::new, x -> Told.answer(x::undo));
        unchanged("no restore", empty, SlopeOperator::new, x -> Told.answer(x::restore));
        unchanged("no reason", empty, SlopeOperator::new, x -> Told.answer(x::reason));
        unchanged("no error position", empty, SlopeOperator::new, x -> Told.answer(x::errorPosition));
        unchanged("opening one with wear 20", Told.everything(() -> Areas.worn(20)), () -> Areas.worn(20),
                x -> Told.answer(() -> x.open(0, true)));
    }

    private static void unchanged(String name, String before, Supplier<SlopeOperator> area, Consumer<SlopeOperator> call) {
        due(name, before, () -> Told.everything(() -> {
            SlopeOperator x = area.get();
            call.accept(x);
            return x;
        }));
    }

    /** A refusal keeps a reason and counts; an undo of what was before it brings back all the rest. */
    private static void refusalsChangeLittle() {
        sentence("Exceptions", "A method that throws an exception leaves the state unchanged, unless its documentation");
        String busy = Told.area(Areas::busy);
        String full = Told.area(Areas::full);
        int[][] queues = {{0, 0}, {5, 0}, {6, 1}, {7, 2}, {4, 1}};
        for (int[] q : queues) {
            due("queue " + q[0] + " " + q[1], busy, () -> Told.area(() -> refusedQueue(Areas.busy(), q[0], q[1])));
            due("ski " + q[0] + " " + q[1], busy, () -> Told.area(() -> refusedSki(Areas.busy(), q[0], q[1])));
            due("full, queue " + q[0], full, () -> Told.area(() -> refusedQueue(Areas.full(), q[0], 0)));
            due("full, ski " + q[0], full, () -> Told.area(() -> refusedSki(Areas.full(), q[0], 3)));
        }
        SlopeOperator x = refusedQueue(Areas.busy(), 6, 1);
        due("the refusals of the guest", 2, () -> x.guestAccount(6, 2));
        due("those of another one stay", 1, () -> x.guestAccount(4, 2));
        due("the error position stays", 2, x::errorPosition);
        due("the input stays", 5, () -> x.append('1'));
    }

    private static SlopeOperator refusedQueue(SlopeOperator x, int guest, int lift) {
        Told.answer(() -> x.queue(guest, lift));
        if (x.reason() == x.whyNotQueue(guest, lift)) {
            return x;
        }
        throw new IllegalStateException("it was not refused");
    }

    private static SlopeOperator refusedSki(SlopeOperator x, int guest, int piste) {
        Told.answer(() -> x.ski(guest, piste));
        if (x.reason() == x.whyNotSki(guest, piste)) {
            return x;
        }
        throw new IllegalStateException("it was not refused");
    }

    private static void wrongTextsChangeLittle() {
        String busy = Told.area(Areas::busy);
        // The input of the busy area begins with "w1;t".
        for (String rest : new String[] {"", "0;", "1", "1;x", "1;q0-0;", "9;g01;w9;q9-9;", "9;q8-0;", "9;w0;g01;q8-0;q8-0;"}) {
            due("w1;t" + rest, busy, () -> Told.area(() -> {
                SlopeOperator x = Areas.busy();
                put(x, rest);
                String thrown = Told.answer(x::read);
                if (!thrown.endsWith("Exception")) {
                    throw new IllegalStateException("it was done");
                }
                return x;
            }));
        }
        SlopeOperator x = Areas.busy();
        put(x, "1;q0-0;");
        refused("a refusal by a text", STATE, x::read);
        due("it leaves the error position", 2, x::errorPosition);
        due("it keeps its reason", 1, x::reason);
        refused("no text", ARGUMENT, x::read);
        due("it leaves the reason", 1, x::reason);
        due("it keeps its error position", 0, x::errorPosition);
    }

    private static void questionsChangeNothing() {
        sentence("Exceptions", "Methods whose documentation does not mention a change only answer a question.");
        for (Supplier<SlopeOperator> area : List.<Supplier<SlopeOperator>>of(SlopeOperator::new, Areas::busy, Areas::full)) {
            String before = Told.everything(area);
            due("all numbers", before, () -> Told.everything(() -> {
                SlopeOperator x = area.get();
                x.count(0);
                Told.answer(() -> x.lift(0, 8));
                Told.answer(() -> x.piste(0, 5));
                Told.answer(() -> x.guest(0, 2));
                Told.answer(() -> x.liftAccount(0, 0));
                Told.answer(() -> x.guestAccount(0, 0));
                Told.answer(() -> x.pisteAccount(0));
                Told.answer(() -> x.load(0));
                Told.answer(x::busiest);
                x.audit();
                return x;
            }));
            due("all ways ahead", before, () -> Told.everything(() -> {
                SlopeOperator x = area.get();
                Told.answer(() -> x.whyNotQueue(0, 0));
                Told.answer(() -> x.whyNotSki(0, 0));
                Told.answer(() -> x.opened(0));
                Told.answer(() -> x.queued(0, 0));
                Told.answer(() -> x.arrival(3));
                Told.answer(() -> x.nextCabin(0));
                Told.answer(() -> x.duration(0, 0, 1));
                Told.answer(() -> x.firstPart(0, 0, 1));
                Told.answer(() -> x.reachable(0, 0));
                Told.answer(() -> x.stranded(0, 0));
                Told.answer(x::reason);
                Told.answer(x::errorPosition);
                return x;
            }));
        }
    }

    private static void masks() {
        sentence("Exceptions", "Sets are bit masks, bit k for number k.");
        for (int k : range(0, 5)) {
            SlopeOperator x = new SlopeOperator();
            for (int lift : range(0, 5)) {
                x.addLift(0, 1, lift == k ? 3 : 0, 1, 1, lift == k ? 13 : 10);
            }
            x.addGuest(0, 1, 8, 0, 0);
            due("held", 1 << k, () -> x.setWind(6));
            due("opened", 1 << k, () -> x.opened(0));
        }
        for (int zone : range(0, 3)) {
            SlopeOperator x = new SlopeOperator();
            x.addLift(0, 1, zone, 1, 1, 10);
            x.addGuest(0, 1, 1 << zone, 0, 0);
            x.addGuest(0, 1, 15 - (1 << zone), 0, 0);
            due("zone", 1, () -> x.opened(0));
            due("all other zones", 0, () -> x.opened(1));
        }
        for (int station : range(0, 7)) {
            SlopeOperator x = new SlopeOperator();
            x.addGuest(0, 1, 8, 0, 0);
            due("reachable", 1 << station, () -> x.reachable(0, station));
            due("stranded", 255 & ~(1 << station), () -> x.stranded(0, station));
        }
    }

    private static void arrivalBehindTheLastTick() {
        sentence("More precisely", "arrival looks ahead whatever the tick number is, with cabins and queues as the ticks would");
        for (int tick : new int[] {0, 940, 950, 990, 999, 1000}) {
            SlopeOperator x = Areas.waiting(16, 0, 6, 1, 60);
            x.addPiste(0, 1, 2, 9);
            x.setWind(9);
            advanceBy(x, tick);
            x.setWind(0);
            for (int guest : range(0, 9)) {
                x.queue(guest, 0);
            }
            x.ski(10, 0);
            due("skiing at tick " + tick, 18, () -> x.arrival(10));
            for (int guest : range(0, 8)) {
                due("place " + guest + " at tick " + tick, 12 + 6 * guest, () -> x.arrival(guest));
            }
            refused("66 at tick " + tick, NONE, () -> x.arrival(9));
        }
        SlopeOperator riding = Areas.waiting(2, 1, 1, 1, 90);
        advanceBy(riding, 999);
        riding.queue(1, 0);
        riding.advance(1);
        due("riding at tick 1000", 9, () -> riding.arrival(1));
    }
}
