/** Counts and prints answers that are not as due, and ends the run with exit code 1 if there were any. */
final class Checks {
    static final long LEAST_LONG = Long.MIN_VALUE;
    static final int LEAST_INT = Integer.MIN_VALUE;
    private static final int MOST_PRINTED = 50;

    private int made = 0;
    private int wrong = 0;
    private String part = "";

    void part(String name) {
        part = name;
    }

    void due(String what, long got, long want) {
        made++;
        if (got == want) {
            return;
        }
        wrong++;
        if (wrong <= MOST_PRINTED) {
            System.out.println(part + ": " + what + " answered " + got + ", due is " + want);
        }
    }

    void holds(String what, boolean fact) {
        due(what, fact ? 1 : 0, 1);
    }

    int wrongSoFar() {
        return wrong;
    }

    void end() {
        System.out.println(made + " checks, " + wrong + " wrong");
        if (made == 0 || wrong != 0) {
            System.exit(1);
        }
    }
}
