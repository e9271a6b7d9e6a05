/** Promises 10 and 12. */
public final class BlockTest {
    private static final Check CHECK = new Check();

    public static void main(String[] args) {
        placesAreKept();
        exponentIsSetBack();
        wrongInputs();
        CHECK.end();
    }

    private static void placesAreKept() {
        FixedSignals signals = new FixedSignals();
        for (int p = 0; p < 32; p++) {
            signals.put(p, 1000000 * p - 7, Integer.MIN_VALUE + p);
        }
        signals.put(5, Integer.MAX_VALUE, Integer.MIN_VALUE);
        for (int p = 0; p < 32; p++) {
            CHECK.due("get(" + p + ", false)", signals.get(p, false), p == 5 ? Integer.MAX_VALUE : 1000000 * p - 7);
            CHECK.due("get(" + p + ", true)", signals.get(p, true), p == 5 ? Integer.MIN_VALUE : Integer.MIN_VALUE + p);
        }
    }

    private static void exponentIsSetBack() {
        FixedSignals signals = new FixedSignals();
        signals.put(0, 1 << 30, 0);
        CHECK.due("the exponent", signals.transform(1, false), 2);
        signals.get(0, false);
        CHECK.due("the exponent after get", signals.transform(0, false), 2);
        signals.put(31, 0, 0);
        CHECK.due("the exponent after put", signals.transform(0, false), 0);
    }

    private static void wrongInputs() {
        FixedSignals signals = new FixedSignals();
        signals.put(0, 1 << 29, 0);
        signals.transform(1, false);
        int[] none = {-1, 32, 64, Integer.MIN_VALUE, Integer.MAX_VALUE};
        for (int place : none) {
            CHECK.refuses("put(" + place + ", 1, 2)", () -> signals.put(place, 1, 2));
            CHECK.refuses("get(" + place + ", false)", () -> signals.get(place, false));
            CHECK.refuses("get(" + place + ", true)", () -> signals.get(place, true));
        }
        CHECK.due("the exponent after refusals", signals.transform(0, false), 1);
        CHECK.due("get(0, false) after refusals", signals.get(0, false), 1 << 28);
        CHECK.due("get(31, false) after refusals", signals.get(31, false), 0);
    }
}
