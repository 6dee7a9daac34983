import java.lang.reflect.InvocationTargetException;
import java.lang.reflect.Method;
import java.lang.reflect.Modifier;
import java.util.ArrayList;
import java.util.Arrays;
import java.util.Comparator;
import java.util.List;
import java.util.TreeMap;

/**
 * Many runs of 512 calls, whose arguments are made by a fixed rule, on the class and on the model: both answer alike,
 * and what the class throws is the very class that the document names, thrown by a throw statement of its own.
 */
public final class ModelTest {
    private static final int RUNS = 1000;
    private static final int CALLS = 512;
    private static final String[] FREQUENT = {"queue", "queue", "queue", "queue", "ski", "ski", "ski", "advance",
        "advance", "advance", "arrival", "setWind", "nextCabin", "guest", "lift", "piste", "whyNotQueue", "whyNotSki",
        "firstPart", "duration"};
    private static final String[] SOMETIMES = {"addGuest", "addPiste", "addLift", "open", "groom", "groom", "leave",
        "undo", "undo", "append", "queued", "save"};

    private static final List<Method> METHODS = new ArrayList<>();
    private static final TreeMap<String, Integer> TALLY = new TreeMap<>();

    private final int run;
    private final SlopeOperator x = new SlopeOperator();
    private final Model model = new Model();
    private final List<String> told = new ArrayList<>();
    private long seed;
    private String text = "";

    private ModelTest(int run) {
        this.run = run;
        seed = 20261119L * (run + 1);
    }

    public static void main(String[] args) throws Exception {
        for (Method method : SlopeOperator.class.getDeclaredMethods()) {
            if (Modifier.isPublic(method.getModifiers())) {
                METHODS.add(method);
            }
        }
        METHODS.sort(Comparator.comparing(Method::getName));
        int wrong = 0;
        for (int run = 0; run < RUNS && wrong < 3; run++) {
            wrong += new ModelTest(run).differs() ? 1 : 0;
        }
        if (args.length > 0) {
            TALLY.forEach((key, value) -> System.out.println(value + " " + key));
        }
        System.out.println(RUNS + " runs beside the model, " + wrong + " differ");
        if (wrong > 0) {
            System.exit(1);
        }
    }

    private boolean differs() throws Exception {
        for (int i = 0; i < CALLS; i++) {
            if (answersDiffer(nextCall(i))) {
                return true;
            }
        }
        return false;
    }

    private record Asked(Method method, Object[] values) {
    }

    private Asked nextCall(int i) {
        if (text.isEmpty()) {
            Method method = choose(i);
            Object[] values = arguments(method);
            if (!method.getName().equals("append") || below(6) == 0) {
                return new Asked(method, values);
            }
            text = someText() + (below(12) == 0 ? "" : "\n");
        }
        char next = text.charAt(0);
        text = text.substring(1);
        return next == '\n' ? new Asked(method("read"), new Object[0])
                : new Asked(method("append"), new Object[] {next});
    }

    private boolean answersDiffer(Asked asked) throws Exception {
        String name = asked.method().getName();
        Method ofModel = Model.class.getDeclaredMethod(name, asked.method().getParameterTypes());
        Object want = answer(model, ofModel, asked.values());
        Object got = answer(x, asked.method(), asked.values());
        told.add(name + Arrays.toString(asked.values()) + " -> " + got);
        TALLY.merge(name + " " + (got instanceof String || name.matches("reason|why.*|read|arrival|firstPart")
                ? got : "answers"), 1, Integer::sum);
        if (want.equals(got)) {
            return false;
        }
        System.out.println("run " + run + ": due is " + want + " behind");
        told.forEach(line -> System.out.println("  " + line));
        return true;
    }

    private static Object answer(Object target, Method method, Object[] values) throws Exception {
        try {
            return method.invoke(target, values);
        } catch (InvocationTargetException e) {
            Throwable thrown = e.getCause();
            if (target instanceof SlopeOperator && !isThrownByStatement(thrown)) {
                return "the machine throws " + thrown;
            }
            return thrown.getClass().getSimpleName();
        }
    }

    /** What the machine throws has a text of its own, such as "/ by zero", or a class below the named ones. */
    private static boolean isThrownByStatement(Throwable thrown) {
        return thrown.getStackTrace()[0].getClassName().equals("SlopeOperator")
                && !"/ by zero".equals(thrown.getMessage());
    }

    private static Method method(String name) {
        return METHODS.stream().filter(m -> m.getName().equals(name)).findFirst().orElseThrow();
    }

    /** The area is built first, so that the later calls find something; then calls that move are the most frequent. */
    private Method choose(int i) {
        if (i < 40 && below(8) > 0) {
            return method(new String[] {"addLift", "addPiste", "addPiste", "addGuest", "addGuest"}[below(5)]);
        }
        int kind = below(20);
        if (kind < 13) {
            return method(FREQUENT[below(FREQUENT.length)]);
        }
        if (kind < 17) {
            return method(SOMETIMES[below(SOMETIMES.length)]);
        }
        String name = METHODS.get(below(METHODS.size())).getName();
        boolean isEnd = name.equals("clear") || name.equals("endDay");
        return isEnd && below(run % 4 == 0 ? 2 : 12) > 0 ? method("advance") : method(name);
    }

    private Object[] arguments(Method method) {
        String name = method.getName();
        Class<?>[] types = method.getParameterTypes();
        Object[] values = new Object[types.length];
        for (int k = 0; k < types.length; k++) {
            if (types[k] == boolean.class) {
                values[k] = below(3) > 0;
            } else if (types[k] == char.class) {
                values[k] = (char) below(300);
            } else {
                values[k] = below(60) == 0 ? oddNumber() : number(name, k);
            }
        }
        if ((name.equals("queue") || name.equals("ski")) && below(6) > 0) {
            aim(name, values);
        }
        return values;
    }

    /** Turns a call of queue or ski to a guest and a part that fit, if there are such. */
    private void aim(String name, Object[] values) {
        int parts = model.count(name.equals("queue") ? 0 : 1);
        for (int i = 0; i < 40 && parts > 0 && model.count(2) > 0; i++) {
            int guest = below(model.count(2));
            int part = below(parts);
            int why = name.equals("queue") ? model.whyNotQueue(guest, part) : model.whyNotSki(guest, part);
            if (why == 0 || why > 2 && below(8) == 0) {
                values[0] = guest;
                values[1] = part;
                return;
            }
        }
    }

    private int oddNumber() {
        int[] odd = {-1, 1000, 1001, 50, 51, 16, 10, 8, 7, 6, Integer.MIN_VALUE, Integer.MAX_VALUE, 60, 11};
        return odd[below(odd.length)];
    }

    private int number(String name, int k) {
        int lift = below(model.count(0) + (below(9) == 0 ? 2 : 0));
        int piste = below(model.count(1) + (below(9) == 0 ? 2 : 0));
        int guest = below(model.count(2) + (below(9) == 0 ? 2 : 0));
        switch (name) {
            case "addLift": return new int[] {station(), station(), below(4), interval(), capacity(), ride()}[k];
            case "addPiste": return new int[] {station(), station(), 1 + below(3), 1 + below(9)}[k];
            case "addGuest": return new int[] {station(), 1 + below(3), below(3) > 0 ? 15 : below(16), below(2),
                below(5)}[k];
            case "queue": case "whyNotQueue": return k == 0 ? guest : lift;
            case "ski": case "whyNotSki": return k == 0 ? guest : piste;
            case "setWind": return below(3) > 0 ? below(6) : below(10);
            case "advance": return below(8) == 0 ? 1 + below(50) : 1 + below(3);
            case "duration": case "firstPart": case "reachable": case "stranded": return k == 0 ? guest : station();
            case "guest": case "guestAccount": case "opened": case "leave": case "arrival":
                return k == 0 ? guest : below(name.equals("guest") ? 8 : 4);
            case "lift": case "liftAccount": case "load": case "nextCabin": case "queued":
                return k == 0 ? lift : below(name.equals("lift") ? 12 : 3);
            case "piste": case "pisteAccount": case "open": case "groom": return k == 0 ? piste : below(9);
            default: return below(13);
        }
    }

    /** Some runs crowd a few stations, so that queues fill and pistes wear; others spread over all. */
    private int station() {
        return below(2 + run % 3 * 3);
    }

    private int interval() {
        return run % 2 == 0 ? 1 + below(6) : 6 - below(2);
    }

    private int capacity() {
        return run % 2 == 0 ? 1 + below(8) : 1;
    }

    private int ride() {
        return below(6) == 0 ? below(100) : 10 * (1 + below(9)) + below(4);
    }

    private String someText() {
        StringBuilder made = new StringBuilder();
        int entries = 1 + below(below(6) == 0 ? 14 : 4);
        for (int i = 0; i < entries; i++) {
            switch (below(7)) {
                case 0 -> made.append('g').append(below(4)).append(1 + below(3));
                case 1, 2 -> made.append('q').append(aimed("queue"));
                case 3, 4 -> made.append('s').append(aimed("ski"));
                case 5 -> made.append('w').append(below(10));
                default -> made.append('t').append(1 + below(9));
            }
            made.append(';');
        }
        if (below(4) == 0) {
            int place = below(made.length());
            char sign = "0123456789-;gqstw x".charAt(below(19));
            switch (below(3)) {
                case 0 -> made.deleteCharAt(place);
                case 1 -> made.insert(place, sign);
                default -> made.setCharAt(place, sign);
            }
        }
        return made.length() == 0 ? "x" : made.toString();
    }

    private String aimed(String name) {
        Object[] values = {below(16), below(6)};
        aim(name, values);
        return values[0] + "-" + values[1];
    }

    /** The next number of a fixed row, from 0, less than the bound, or 0 if there is none. */
    private int below(int bound) {
        seed = seed * 6364136223846793005L + 1442695040888963407L;
        return bound < 1 ? 0 : (int) ((seed >>> 33) % bound);
    }
}
