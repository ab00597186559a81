/** Counts and prints the answers that are not as due. */
final class Checks {
    /** One call whose answer or exception is looked at. */
    interface Call {
        Object answer();
    }

    private static int wrong = 0;
    private static int made = 0;

    private Checks() {
    }

    /** The answer as a text, or the name of the exception behind "throws.". */
    static String outcome(Call call) {
        try {
            return String.valueOf(call.answer());
        } catch (RuntimeException e) {
            return "throws." + e.getClass().getSimpleName();
        }
    }

    static void due(String what, Object want, Call call) {
        made++;
        String got = outcome(call);
        if (!got.equals(String.valueOf(want))) {
            wrong++;
            System.out.println(what + ": answered " + got + ", due is " + want);
        }
    }

    static void finish() {
        System.out.println(made + " checks, " + wrong + " not as due");
        if (wrong != 0 || made == 0) {
            System.exit(1);
        }
    }
}
