/** Promise 9. */
public final class CalmTest {
    public static void main(String[] args) {
        Check check = new Check();
        pastIsGone(check);
        theRestStays(check);
        check.end();
    }

    private static FixedSignals filled() {
        FixedSignals signals = new FixedSignals();
        for (int k = 0; k < 16; k++) {
            signals.tap(k, 1024);
        }
        for (int stage = 0; stage < 4; stage++) {
            signals.stage(stage, 1, 4096);
            signals.stage(stage, 2, 2048);
            signals.stage(stage, 3, -4096);
            signals.stage(stage, 4, -2048);
        }
        return signals;
    }

    private static void pastIsGone(Check check) {
        FixedSignals used = filled();
        for (int i = 0; i < 20; i++) {
            used.filter(20000 + i);
            used.chain(3000 - i);
        }
        used.calm();
        FixedSignals fresh = filled();
        for (int i = 0; i < 20; i++) {
            check.due("filter after calm", used.filter(1000 * i), fresh.filter(1000 * i));
            check.due("chain after calm", used.chain(100 * i), fresh.chain(100 * i));
        }
        used.calm();
        for (int i = 0; i < 20; i++) {
            check.due("filter(0) after calm", used.filter(0), 0);
            check.due("chain(0) after calm", used.chain(0), 0);
        }
    }

    private static void theRestStays(Check check) {
        FixedSignals signals = new FixedSignals();
        signals.tap(0, 16384);
        signals.stage(2, 0, 8192);
        signals.put(0, 1 << 29, 7);
        check.due("transform", signals.transform(1, false), 1);
        signals.calm();
        check.due("filter(1000)", signals.filter(1000), 500);
        check.due("chain(1000)", signals.chain(1000), 500);
        check.due("get(0, false)", signals.get(0, false), 1 << 28);
        check.due("get(0, true)", signals.get(0, true), 4);
        check.due("the exponent", signals.transform(0, false), 1);
    }
}
