/** "An object is used for at most 512 calls after it has been made": the 512th still holds. */
public final class LastCallTest {
    private static final int LAST = 512;
    private static final Check CHECK = new Check();

    public static void main(String[] args) {
        CHECK.sentence("An object is used for at most 512 calls after it has been made");
        lastFilter();
        lastChain();
        lastTransform();
        lastOfTheRest();
        CHECK.end();
    }

    private static void lastFilter() {
        FixedSignals signals = new FixedSignals();
        signals.tap(15, 16384);
        for (int call = 2; call <= LAST; call++) {
            int want = call < 17 ? 0 : call - 15;
            CHECK.due("filter as call " + call, signals.filter(2 * call), want);
        }
    }

    private static void lastChain() {
        FixedSignals signals = new FixedSignals();
        signals.stage(0, 3, -16384);
        for (int call = 2; call <= LAST; call++) {
            CHECK.due("chain as call " + call, signals.chain(64), 64 * (call - 1));
        }
    }

    private static void lastTransform() {
        FixedSignals signals = new FixedSignals();
        signals.put(0, 1 << 28, 0);
        // Two of these make twice the number, which is then taken back by one more in the exponent.
        for (int call = 2; call <= LAST; call++) {
            CHECK.due("transform as call " + call, signals.transform(1, false), (call - 2) / 2);
        }
    }

    private static void lastOfTheRest() {
        FixedSignals numbers = new FixedSignals();
        FixedSignals angles = new FixedSignals();
        for (int call = 1; call <= LAST; call++) {
            numbers.put(call % 32, call, -call);
            angles.wave(call, true);
            call++;
            CHECK.due("get as call " + call, numbers.get((call - 1) % 32, true), 1 - call);
            CHECK.due("length as call " + call, angles.length(1 << 29, 1 << 29), 759250127);
        }
    }
}
