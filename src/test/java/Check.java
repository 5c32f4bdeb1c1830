/** Counts the answers that are not as due; every test ends with it. */
final class Check {
    private int made = 0;
    private int wrong = 0;

    void due(String call, long got, long want) {
        made++;
        if (got != want) {
            wrong++;
            System.out.println(call + " answered " + got + ", due is " + want);
        }
    }

    void holds(String what, boolean is) {
        made++;
        if (!is) {
            wrong++;
            System.out.println("does not hold: " + what);
        }
    }

    boolean failed() {
        return wrong > 0;
    }

    void end() {
        System.out.println(made + " checks, " + wrong + " wrong");
        if (wrong > 0 || made == 0) {
            System.exit(1);
        }
    }
}
