/** Counts the answers that are not as due; every test of the project ends with it. */
final class Check {
    interface Call {
        void make();
    }

    private int wrong;
    private int made;
    private String words = "";

    /** The document's words that the checks from here on hold the class to; told with each wrong answer. */
    void sentence(String said) {
        words = " [" + said + "]";
    }

    void due(String call, long got, long want) {
        made++;
        if (got != want) {
            tellWrong(call + " answered " + got + ", due is " + want);
        }
    }

    void near(String call, double got, double want, double room) {
        made++;
        if (!(Math.abs(got - want) <= room)) {
            tellWrong(call + " answered " + got + ", due is about " + want);
        }
    }

    void refuses(String call, Call refused) {
        made++;
        try {
            refused.make();
        } catch (RuntimeException e) {
            if (e.getClass() != IllegalArgumentException.class) {
                tellWrong(call + " threw " + e.getClass().getName() + ", due is IllegalArgumentException");
            }
            return;
        }
        tellWrong(call + " threw nothing, due is IllegalArgumentException");
    }

    void holds(String what, boolean isSo) {
        made++;
        if (!isSo) {
            tellWrong("not so: " + what);
        }
    }

    private void tellWrong(String what) {
        wrong++;
        System.out.println(what + words);
    }

    void end() {
        System.out.println(made + " checks, " + wrong + " wrong");
        if (wrong != 0 || made == 0) {
            System.exit(1);
        }
    }
}
