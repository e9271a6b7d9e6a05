/** Counts the answers that are not as due; every test of the project ends with it. */
final class Check {
    interface Call {
        void make();
    }

    private int wrong;
    private int made;

    void due(String call, long got, long want) {
        made++;
        if (got != want) {
            wrong++;
            System.out.println(call + " answered " + got + ", due is " + want);
        }
    }

    void near(String call, double got, double want, double room) {
        made++;
        if (!(Math.abs(got - want) <= room)) {
            wrong++;
            System.out.println(call + " answered " + got + ", due is about " + want);
        }
    }

    void refuses(String call, Call refused) {
        made++;
        try {
            refused.make();
        } catch (IllegalArgumentException e) {
            return;
        }
        wrong++;
        System.out.println(call + " threw nothing, due is IllegalArgumentException");
    }

    void holds(String what, boolean isSo) {
        made++;
        if (!isSo) {
            wrong++;
            System.out.println("not so: " + what);
        }
    }

    void end() {
        System.out.println(made + " checks, " + wrong + " wrong");
        if (wrong != 0 || made == 0) {
            System.exit(1);
        }
    }
}
