/** Counts the answers that are not as due, and prints them. */
final class Check {
    /** Some calls that may throw. */
    interface Calls {
        void make();
    }

    private static int wrong;
    private static int made;

    private Check() {
    }

    static void same(String what, long answered, long due) {
        note(what, answered == due, answered, due);
    }

    static void same(String what, double answered, double due) {
        note(what, answered == due, answered, due);
    }

    static void same(String what, boolean answered, boolean due) {
        note(what, answered == due, answered, due);
    }

    static void same(String what, String answered, String due) {
        note(what, answered.equals(due), answered, due);
    }

    static void noPlace(String what, Calls calls) {
        same(what, thrownBy(calls), "IndexOutOfBoundsException");
    }

    static void noValue(String what, Calls calls) {
        same(what, thrownBy(calls), "IllegalArgumentException");
    }

    static void noState(String what, Calls calls) {
        same(what, thrownBy(calls), "IllegalStateException");
    }

    /** The name of the exception that is thrown, or "nothing". */
    static String thrownBy(Calls calls) {
        try {
            calls.make();
        } catch (RuntimeException e) {
            return e.getClass().getSimpleName();
        }
        return "nothing";
    }

    private static void note(String what, boolean isAsDue, Object answered, Object due) {
        made++;
        if (!isAsDue) {
            wrong++;
            System.out.println(what + ": answered " + answered + ", due is " + due);
        }
    }

    /** Ends the program with exit code 1 if something was not as due, or nothing was checked. */
    static void end() {
        System.out.println(made + " answers, " + wrong + " of them not as due");
        if (wrong > 0 || made == 0) {
            System.exit(1);
        }
    }
}
