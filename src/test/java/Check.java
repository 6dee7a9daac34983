/** Counts the answers of calls that are not the due ones. */
final class Check {
    interface Call {
        Object answer();
    }

    private static int asked = 0;
    private static int wrong = 0;

    private Check() {
    }

    static void due(String name, Object want, Call call) {
        asked++;
        Object got;
        try {
            got = call.answer();
        } catch (RuntimeException e) {
            got = e.getClass().getSimpleName();
        }
        if (!want.equals(got)) {
            wrong++;
            System.out.println(name + ": answered " + got + ", due is " + want);
        }
    }

    /** The class of the exception is the very one that the document names, none below it. */
    static void refused(String name, Class<? extends RuntimeException> want, Call call) {
        due(name, want.getSimpleName(), call);
    }

    static void end() {
        System.out.println(asked + " answers, " + wrong + " wrong");
        if (wrong > 0) {
            System.exit(1);
        }
    }
}
