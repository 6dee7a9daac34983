import java.lang.reflect.InvocationTargetException;
import java.lang.reflect.Method;
import java.util.ArrayList;
import java.util.Comparator;
import java.util.List;

/**
 * Many runs of 512 calls, whose arguments are made by a fixed rule, on the class and on the model: both answer alike,
 * and what the class throws is the very class that the document names, thrown by a throw statement of its own.
 */
public final class ModelTest {
    private static final int RUNS = 600;
    private static final int CALLS = 512;

    private static long seed = 20261119;
    private static final List<Method> METHODS = new ArrayList<>();

    public static void main(String[] args) throws Exception {
        for (Method method : SlopeOperator.class.getDeclaredMethods()) {
            if (java.lang.reflect.Modifier.isPublic(method.getModifiers())) {
                METHODS.add(method);
            }
        }
        METHODS.sort(Comparator.comparing(Method::getName));
        int wrong = 0;
        for (int run = 0; run < RUNS && wrong < 5; run++) {
            wrong += differs(run) ? 1 : 0;
        }
        System.out.println(RUNS + " runs beside the model, " + wrong + " differ");
        if (wrong > 0) {
            System.exit(1);
        }
    }

    private static boolean differs(int run) throws Exception {
        SlopeOperator x = new SlopeOperator();
        Model model = new Model();
        List<String> told = new ArrayList<>();
        String text = "";
        for (int i = 0; i < CALLS; i++) {
            Method method;
            Object[] values;
            if (!text.isEmpty()) {
                method = method("append");
                values = new Object[] {text.charAt(0)};
                text = text.substring(1);
            } else {
                method = choose(run, i);
                values = arguments(method, i);
                if (method.getName().equals("append")) {
                    text = someText() + (below(5) == 0 ? "" : "\n");
                    values[0] = text.charAt(0);
                    text = text.substring(1);
                }
            }
            if (method.getName().equals("append") && values[0].equals('\n')) {
                method = method("read");
                values = new Object[0];
            }
            Object want = answer(model, Model.class.getDeclaredMethod(method.getName(), method.getParameterTypes()), values);
            Object got = answer(x, method, values);
            told.add(method.getName() + java.util.Arrays.toString(values) + " -> " + got);
            if (!want.equals(got)) {
                System.out.println("run " + run + ": due is " + want + " behind");
                told.forEach(line -> System.out.println("  " + line));
                return true;
            }
        }
        return false;
    }

    private static Object answer(Object target, Method method, Object[] values) throws Exception {
        try {
            return method.invoke(target, values);
        } catch (InvocationTargetException e) {
            Throwable thrown = e.getCause();
            if (target instanceof SlopeOperator && !isThrownByStatement(thrown)) {
                return "the machine throws " + thrown;
            }
            return thrown.getClass().getSimpleName();
        }
    }

    /** What the machine throws has a text of its own, such as "/ by zero", or a class below the named ones. */
    private static boolean isThrownByStatement(Throwable thrown) {
        return thrown.getStackTrace()[0].getClassName().equals("SlopeOperator")
                && !"/ by zero".equals(thrown.getMessage());
    }

    private static Method method(String name) {
        return METHODS.stream().filter(m -> m.getName().equals(name)).findFirst().orElseThrow();
    }

    /** The area is built first, so that the later calls find something; then calls that move are the most frequent. */
    private static Method choose(int run, int i) {
        if (i < 30 && below(4) > 0) {
            return method(new String[] {"addLift", "addPiste", "addGuest", "addGuest"}[below(4)]);
        }
        if (below(3) > 0) {
            String[] frequent = {"queue", "queue", "queue", "ski", "ski", "ski", "advance", "advance", "arrival", "undo",
                "append", "setWind", "groom", "open", "leave", "addGuest", "nextCabin", "guest"};
            return method(frequent[below(frequent.length)]);
        }
        String name = METHODS.get(below(METHODS.size())).getName();
        boolean isRare = name.equals("clear") || name.equals("endDay") || name.equals("restore");
        return isRare && below(run % 2 == 0 ? 12 : 3) > 0 ? method("advance") : method(name);
    }

    private static Object[] arguments(Method method, int i) {
        Class<?>[] types = method.getParameterTypes();
        Object[] values = new Object[types.length];
        for (int k = 0; k < types.length; k++) {
            if (types[k] == boolean.class) {
                values[k] = below(3) > 0;
            } else if (types[k] == char.class) {
                values[k] = (char) below(300);
            } else {
                values[k] = below(40) == 0 ? oddNumber() : number(method.getName(), k);
            }
        }
        return values;
    }

    private static int oddNumber() {
        int[] odd = {-1, 1000, 1001, 50, 51, 16, 10, 8, 7, 6, Integer.MIN_VALUE, Integer.MAX_VALUE, 60, 11};
        return odd[below(odd.length)];
    }

    private static int number(String name, int k) {
        switch (name) {
            case "addLift": return new int[] {below(4), below(4), below(4), 1 + below(6), 1 + below(8), ride()}[k];
            case "addPiste": return new int[] {below(4), below(4), 1 + below(3), 1 + below(9)}[k];
            case "addGuest": return new int[] {below(4), 1 + below(3), below(3) > 0 ? 15 : below(16), below(2), below(4)}[k];
            case "queue": case "whyNotQueue": return k == 0 ? below(16) : below(6);
            case "ski": case "whyNotSki": return k == 0 ? below(16) : below(10);
            case "setWind": return below(3) > 0 ? below(6) : below(10);
            case "advance": return below(8) == 0 ? 1 + below(50) : 1 + below(4);
            case "duration": case "firstPart": case "reachable": case "stranded": return k == 0 ? below(16) : below(4);
            case "guest": case "guestAccount": case "opened": case "leave": case "arrival": return k == 0 ? below(16) : below(8);
            case "lift": case "liftAccount": case "load": case "nextCabin": case "queued": return k == 0 ? below(6) : below(11);
            default: return below(12);
        }
    }

    private static int ride() {
        return below(6) == 0 ? below(100) : 10 * (1 + below(9)) + below(4);
    }

    private static String someText() {
        StringBuilder text = new StringBuilder();
        int entries = 1 + below(below(6) == 0 ? 14 : 4);
        for (int i = 0; i < entries; i++) {
            switch (below(5)) {
                case 0 -> text.append('g').append(below(4)).append(1 + below(3));
                case 1 -> text.append('q').append(below(16)).append('-').append(below(6));
                case 2 -> text.append('s').append(below(16)).append('-').append(below(10));
                case 3 -> text.append('w').append(below(10));
                default -> text.append('t').append(1 + below(9));
            }
            text.append(';');
        }
        if (below(4) == 0) {
            int place = below(text.length());
            switch (below(3)) {
                case 0 -> text.deleteCharAt(place);
                case 1 -> text.insert(place, "0123456789-;gqstw x".charAt(below(19)));
                default -> text.setCharAt(place, "0123456789-;gqstw x".charAt(below(19)));
            }
        }
        return text.length() == 0 ? "x" : text.toString();
    }

    /** The next number of a fixed row, from 0, less than the bound. */
    private static int below(int bound) {
        seed = seed * 6364136223846793005L + 1442695040888963407L;
        return (int) ((seed >>> 33) % bound);
    }
}
