/** Promises 7 and 8. */
public final class StagesTest {
    private static final Check CHECK = new Check();

    public static void main(String[] args) {
        for (int stage = 0; stage < 4; stage++) {
            inputsOfBefore(stage);
            answersOfBefore(stage);
        }
        oneBehindTheOther();
        eachIsBoundBeforeTheNext();
        answersAreRounded();
        boundAnswersAreKept();
        sumsAreWithoutBounds();
        wrongInputs();
        CHECK.end();
    }

    private static void due(FixedSignals signals, int x, int want) {
        CHECK.due("chain(" + x + ")", signals.chain(x), want);
    }

    private static void inputsOfBefore(int stage) {
        FixedSignals signals = new FixedSignals();
        signals.stage(stage, 0, 8192);
        signals.stage(stage, 1, 16384);
        signals.stage(stage, 2, -16384);
        due(signals, 1000, 500);
        due(signals, 0, 1000);
        due(signals, 0, -1000);
        due(signals, 0, 0);
    }

    private static void answersOfBefore(int stage) {
        FixedSignals signals = new FixedSignals();
        signals.stage(stage, 3, -8192);
        due(signals, 1000, 1000);
        due(signals, 0, 500);
        due(signals, 0, 250);
        signals.stage(stage, 3, 0);
        signals.stage(stage, 4, 16384);
        due(signals, 0, -500);
        due(signals, 0, -250);
        due(signals, 0, 500);
    }

    private static void oneBehindTheOther() {
        FixedSignals signals = new FixedSignals();
        for (int stage = 0; stage < 4; stage++) {
            signals.stage(stage, 0, 0);
            signals.stage(stage, 1, 16384);
        }
        due(signals, 700, 0);
        due(signals, 0, 0);
        due(signals, 0, 0);
        due(signals, 0, 0);
        due(signals, 0, 700);
        due(signals, 0, 0);
    }

    private static void eachIsBoundBeforeTheNext() {
        FixedSignals signals = new FixedSignals();
        signals.stage(1, 0, 32767);
        signals.stage(2, 0, 8192);
        due(signals, 32767, 16384);
        due(signals, -32768, -16384);
        due(signals, 100, 100);
        signals.stage(3, 0, -16384);
        due(signals, -32768, 16384);
    }

    private static void answersAreRounded() {
        FixedSignals signals = new FixedSignals();
        signals.stage(0, 0, 1);
        due(signals, 8192, 1);
        due(signals, 8191, 0);
        due(signals, -8192, 0);
        due(signals, -8193, -1);
    }

    private static void boundAnswersAreKept() {
        FixedSignals signals = new FixedSignals();
        signals.stage(3, 0, 32767);
        signals.stage(3, 3, -16384);
        due(signals, 32767, 32767);
        due(signals, 0, 32767);
        due(signals, -1, 32765);
    }

    private static void sumsAreWithoutBounds() {
        FixedSignals signals = new FixedSignals();
        for (int k = 0; k < 3; k++) {
            signals.stage(0, k, -32768);
        }
        due(signals, -32768, 32767);
        due(signals, -32768, 32767);
        due(signals, -32768, 32767);
        signals.stage(0, 3, 32767);
        signals.stage(0, 4, 32767);
        // 3 times 2^30 less 2 times 32767^2 is still above the bound times 2^14.
        due(signals, -32768, 32767);
        signals.stage(0, 2, 0);
        // 2^31 - 2 (32767^2) = 131070, by 2^14: 8.
        due(signals, -32768, 8);
    }

    private static void wrongInputs() {
        FixedSignals signals = new FixedSignals();
        signals.stage(0, 1, 16384);
        signals.stage(0, 3, -16384);
        due(signals, 100, 100);
        CHECK.refuses("chain(32768)", () -> signals.chain(32768));
        CHECK.refuses("chain(-32769)", () -> signals.chain(-32769));
        CHECK.refuses("stage(-1, 0, 0)", () -> signals.stage(-1, 0, 0));
        CHECK.refuses("stage(4, 0, 0)", () -> signals.stage(4, 0, 0));
        CHECK.refuses("stage(0, -1, 0)", () -> signals.stage(0, -1, 0));
        CHECK.refuses("stage(0, 5, 0)", () -> signals.stage(0, 5, 0));
        CHECK.refuses("stage(0, 0, 32768)", () -> signals.stage(0, 0, 32768));
        CHECK.refuses("stage(0, 0, -32769)", () -> signals.stage(0, 0, -32769));
        due(signals, 0, 200);
        signals.stage(3, 4, 32767);
        signals.stage(3, 4, -32768);
        signals.stage(3, 4, 0);
        due(signals, 1, 201);
    }
}
