/** Promise 11. */
public final class TransformTest {
    private static final int BIG = 1 << 29;
    private static final Check CHECK = new Check();

    public static void main(String[] args) {
        onePlace();
        twoPlaces();
        fourPlaces();
        edgeOfSize();
        smallerTwiceAtMost();
        onlyTheFirstPlaces();
        exponentGoesOn();
        smallerBetweenSteps();
        wrongInputs();
        for (int m = 0; m <= 5; m++) {
            impulses(m);
            asModel(m, false);
            asModel(m, true);
        }
        CHECK.end();
    }

    private static void duePlace(FixedSignals signals, int place, int re, int im) {
        CHECK.due("get(" + place + ", false)", signals.get(place, false), re);
        CHECK.due("get(" + place + ", true)", signals.get(place, true), im);
    }

    private static void dueTransform(FixedSignals signals, int m, boolean back, int exponent) {
        CHECK.due("transform(" + m + ", " + back + ")", signals.transform(m, back), exponent);
    }

    private static void onePlace() {
        FixedSignals signals = new FixedSignals();
        signals.put(0, Integer.MIN_VALUE, Integer.MAX_VALUE);
        dueTransform(signals, 0, false, 0);
        dueTransform(signals, 0, true, 0);
        duePlace(signals, 0, Integer.MIN_VALUE, Integer.MAX_VALUE);
    }

    private static void twoPlaces() {
        for (int i = 0; i < 2; i++) {
            FixedSignals signals = new FixedSignals();
            signals.put(0, 100, 10);
            signals.put(1, 3, -4);
            dueTransform(signals, 1, i == 1, 0);
            duePlace(signals, 0, 103, 6);
            duePlace(signals, 1, 97, 14);
        }
    }

    private static void fourPlaces() {
        for (int sign = -1; sign <= 1; sign += 2) {
            FixedSignals signals = new FixedSignals();
            signals.put(1, 1000, 0);
            dueTransform(signals, 2, sign > 0, 0);
            duePlace(signals, 0, 1000, 0);
            duePlace(signals, 1, 0, sign * 1000);
            duePlace(signals, 2, -1000, 0);
            duePlace(signals, 3, 0, -sign * 1000);
        }
    }

    private static void edgeOfSize() {
        for (int sign = -1; sign <= 1; sign += 2) {
            FixedSignals below = new FixedSignals();
            below.put(0, sign * (BIG - 1), 0);
            dueTransform(below, 1, false, 0);
            duePlace(below, 0, sign * (BIG - 1), 0);
            FixedSignals first = new FixedSignals();
            first.put(0, sign * BIG, 3);
            first.put(1, 0, -3);
            dueTransform(first, 1, false, 1);
            duePlace(first, 0, sign * BIG / 2, 1);
            duePlace(first, 1, sign * BIG / 2, 3);
            FixedSignals second = new FixedSignals();
            second.put(1, 0, sign * BIG);
            dueTransform(second, 1, true, 1);
            duePlace(second, 0, 0, sign * BIG / 2);
            duePlace(second, 1, 0, -sign * BIG / 2);
        }
    }

    private static void smallerTwiceAtMost() {
        FixedSignals signals = new FixedSignals();
        signals.put(0, 2 * BIG - 1, 0);
        signals.put(1, 5, -5);
        // 2^30 - 1 becomes 2^29, that 2^28; 5, 3, 2; -5, -2, -1.
        dueTransform(signals, 1, false, 2);
        duePlace(signals, 0, BIG / 2 + 2, -1);
        duePlace(signals, 1, BIG / 2 - 2, 1);
        FixedSignals whole = new FixedSignals();
        whole.put(0, Integer.MIN_VALUE, Integer.MAX_VALUE);
        // "then again, if that is so still" is said once: 2^29 in size is left.
        dueTransform(whole, 1, false, 2);
        duePlace(whole, 0, -BIG, BIG);
        duePlace(whole, 1, -BIG, BIG);
        FixedSignals swapped = new FixedSignals();
        swapped.put(1, Integer.MAX_VALUE, Integer.MIN_VALUE);
        dueTransform(swapped, 1, false, 2);
        duePlace(swapped, 0, BIG, -BIG);
        duePlace(swapped, 1, -BIG, BIG);
    }

    private static void onlyTheFirstPlaces() {
        FixedSignals signals = new FixedSignals();
        signals.put(2, Integer.MAX_VALUE, Integer.MIN_VALUE);
        signals.put(31, 77, 78);
        signals.put(0, 5, 5);
        dueTransform(signals, 1, false, 0);
        duePlace(signals, 0, 5, 5);
        duePlace(signals, 2, Integer.MAX_VALUE, Integer.MIN_VALUE);
        signals.put(1, BIG, 0);
        dueTransform(signals, 1, false, 1);
        duePlace(signals, 2, Integer.MAX_VALUE, Integer.MIN_VALUE);
        duePlace(signals, 31, 77, 78);
    }

    private static void exponentGoesOn() {
        FixedSignals signals = new FixedSignals();
        signals.put(0, BIG, 0);
        dueTransform(signals, 1, false, 1);
        dueTransform(signals, 1, true, 1);
        duePlace(signals, 0, BIG, 0);
        dueTransform(signals, 0, true, 1);
        dueTransform(signals, 1, false, 2);
        duePlace(signals, 0, BIG / 2, 0);
    }

    private static void smallerBetweenSteps() {
        FixedSignals signals = new FixedSignals();
        for (int p = 0; p < 4; p++) {
            signals.put(p, BIG - 2, 0);
        }
        // The first step makes 2^30 - 4, which is made smaller once before the second.
        dueTransform(signals, 2, false, 1);
        duePlace(signals, 0, 2 * BIG - 4, 0);
        duePlace(signals, 1, 0, 0);
        duePlace(signals, 2, 0, 0);
        duePlace(signals, 3, 0, 0);
    }

    private static void impulses(int m) {
        int n = 1 << m;
        for (int at = 0; at < n; at++) {
            for (int sign = -1; sign <= 1; sign += 2) {
                FixedSignals signals = new FixedSignals();
                signals.put(at, 1 << 28, 0);
                dueTransform(signals, m, sign > 0, 0);
                for (int k = 0; k < n; k++) {
                    double turn = 2 * Math.PI * at * k / n;
                    CHECK.near("impulse's cosine", signals.get(k, false), (1 << 28) * Math.cos(turn), 8);
                    CHECK.near("impulse's sine", signals.get(k, true), sign * (1 << 28) * Math.sin(turn), 8);
                }
            }
        }
    }

    private static void asModel(int m, boolean back) {
        java.util.Random numbers = new java.util.Random(m);
        for (int run = 0; run < 60; run++) {
            FixedSignals signals = new FixedSignals();
            Model model = new Model();
            for (int p = 0; p < 32; p++) {
                int re = numbers.nextInt() >> run % 30;
                int im = numbers.nextInt() >> run % 30;
                signals.put(p, re, im);
                model.put(p, re, im);
            }
            for (int i = 0; i < 3; i++) {
                dueTransform(signals, m, back ^ i == 1, model.transform(m, back ^ i == 1));
                for (int p = 0; p < 32; p++) {
                    duePlace(signals, p, model.get(p, false), model.get(p, true));
                }
            }
        }
    }

    private static void wrongInputs() {
        FixedSignals signals = new FixedSignals();
        signals.put(1, BIG, 9);
        int[] none = {-1, 6, 31, 32, Integer.MIN_VALUE, Integer.MAX_VALUE};
        for (int m : none) {
            CHECK.refuses("transform(" + m + ", false)", () -> signals.transform(m, false));
            CHECK.refuses("transform(" + m + ", true)", () -> signals.transform(m, true));
        }
        duePlace(signals, 1, BIG, 9);
        dueTransform(signals, 0, false, 0);
    }
}
