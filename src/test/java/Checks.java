/** Counts checks, prints those that fail, and ends the program with 1 if there was one. */
final class Checks {
    private static int made = 0;
    private static int wrong = 0;

    private Checks() {
    }

    static void due(String what, Object got, Object want) {
        made++;
        if (!want.equals(got)) {
            wrong++;
            System.out.println(what + ": answered " + got + ", due is " + want);
        }
    }

    static void throwsJust(String what, Class<? extends RuntimeException> want, Runnable call) {
        made++;
        Class<?> got = null;
        try {
            call.run();
        } catch (RuntimeException e) {
            got = e.getClass();
        }
        if (got != want) {
            wrong++;
            System.out.println(what + ": throws " + got + ", due is " + want);
        }
    }

    static boolean anyWrong() {
        return wrong > 0;
    }

    static void end(String name) {
        System.out.println(name + ": " + made + " checks, " + wrong + " wrong");
        if (wrong > 0) {
            System.exit(1);
        }
    }
}
