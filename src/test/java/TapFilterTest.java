/** Promises 5 and 6. */
public final class TapFilterTest {
    private static final Check CHECK = new Check();

    public static void main(String[] args) {
        eachTapMeetsItsInput();
        pastStaysWhenTapsAreTold();
        answersAreRounded();
        answersAreBound();
        sumsAreWithoutBounds();
        wrongInputs();
        CHECK.end();
    }

    private static void eachTapMeetsItsInput() {
        for (int k = 0; k < 16; k++) {
            FixedSignals signals = new FixedSignals();
            signals.tap(k, 16384);
            for (int i = 0; i < 20; i++) {
                int got = signals.filter(i == 0 ? 1000 : 0);
                CHECK.due("tap " + k + ", answer " + i, got, i == k ? 500 : 0);
            }
        }
    }

    private static void pastStaysWhenTapsAreTold() {
        FixedSignals signals = new FixedSignals();
        CHECK.due("filter(1000) without taps", signals.filter(1000), 0);
        CHECK.due("filter(2000) without taps", signals.filter(2000), 0);
        signals.tap(2, -16384);
        signals.tap(1, 16384);
        CHECK.due("filter(0)", signals.filter(0), 500);
        signals.tap(2, 0);
        CHECK.due("filter(4000)", signals.filter(4000), 0);
        CHECK.due("filter(0)", signals.filter(0), 2000);
    }

    private static void answersAreRounded() {
        FixedSignals signals = new FixedSignals();
        signals.tap(0, 1);
        CHECK.due("filter(16384)", signals.filter(16384), 1);
        CHECK.due("filter(16383)", signals.filter(16383), 0);
        CHECK.due("filter(-16384)", signals.filter(-16384), 0);
        CHECK.due("filter(-16385)", signals.filter(-16385), -1);
    }

    private static void answersAreBound() {
        FixedSignals signals = new FixedSignals();
        signals.tap(0, -32768);
        CHECK.due("filter(-32768)", signals.filter(-32768), 32767);
        CHECK.due("filter(32767)", signals.filter(32767), -32767);
        signals.tap(1, -32768);
        CHECK.due("filter(32767)", signals.filter(32767), -32768);
    }

    private static void sumsAreWithoutBounds() {
        FixedSignals signals = new FixedSignals();
        for (int k = 0; k < 16; k++) {
            signals.tap(k, k < 8 ? -32768 : 32767);
        }
        for (int i = 0; i < 15; i++) {
            signals.filter(-32768);
        }
        // 8 (2^30) - 8 (2^30 - 2^15) is 8 times 2^15.
        CHECK.due("sum of opposite halves", signals.filter(-32768), 8);
        FixedSignals full = new FixedSignals();
        for (int k = 0; k < 16; k++) {
            full.tap(k, -32768);
        }
        for (int i = 0; i < 16; i++) {
            CHECK.due("sum of all taps", full.filter(-32768), 32767);
        }
    }

    private static void wrongInputs() {
        FixedSignals signals = new FixedSignals();
        signals.tap(0, 16384);
        signals.tap(1, 16384);
        signals.filter(1000);
        CHECK.refuses("filter(32768)", () -> signals.filter(32768));
        CHECK.refuses("filter(-32769)", () -> signals.filter(-32769));
        CHECK.refuses("tap(-1, 0)", () -> signals.tap(-1, 0));
        CHECK.refuses("tap(16, 0)", () -> signals.tap(16, 0));
        CHECK.refuses("tap(0, 32768)", () -> signals.tap(0, 32768));
        CHECK.refuses("tap(0, -32769)", () -> signals.tap(0, -32769));
        CHECK.due("filter(0) after refusals", signals.filter(0), 500);
        signals.tap(15, -32768);
        signals.tap(15, 32767);
        CHECK.due("filter(2000) after refusals", signals.filter(2000), 1000);
    }
}
