/** Counts what a test has looked at, prints what is not as due, and ends the test. */
final class Check {

    private final String test;
    private int looked;
    private int wrong;

    Check(String test) {
        this.test = test;
    }

    void due(String call, long got, long want) {
        looked++;
        if (got != want) {
            wrong++;
            System.out.println(test + ": " + call + " answered " + got + ", due is " + want);
        }
    }

    void holds(String what, boolean so) {
        looked++;
        if (!so) {
            wrong++;
            System.out.println(test + ": it does not hold that " + what);
        }
    }

    void end() {
        System.out.println(test + ": " + looked + " looked at, " + wrong + " wrong");
        if (wrong != 0 || looked == 0) {
            System.exit(1);
        }
    }
}
