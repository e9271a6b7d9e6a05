/** Each sentence that names a bound of the TAP FILTER, the STAGES and calm: promises 1 and 5 to 9. */
public final class FilterBoundsTest {
    private static final int LOW = Integer.MIN_VALUE;
    private static final int TOP = Integer.MAX_VALUE;
    private static final Check CHECK = new Check();

    public static void main(String[] args) {
        tapsAtFirst();
        pastInputsAtFirst();
        firstAndLastTap();
        tapValues();
        pastStays();
        farthestPastInput();
        tapFilterRounding();
        tapFilterBounds();
        tapFilterSums();
        tapFilterInputs();
        coefficientsAtFirst();
        beforeAtFirst();
        firstAndLastStage();
        firstAndLastCoefficient();
        coefficientValues();
        farthestBefore();
        stageRounding();
        stageBounds();
        stageSums();
        boundAnswerGoesOn();
        chainInputs();
        calmTapFilter();
        calmStages();
        calmLeavesTheRest();
        CHECK.end();
    }

    private static void filter(FixedSignals signals, int x, int want) {
        CHECK.due("filter(" + x + ")", signals.filter(x), want);
    }

    private static void chain(FixedSignals signals, int x, int want) {
        CHECK.due("chain(" + x + ")", signals.chain(x), want);
    }

    private static void noTap(int k, int value) {
        CHECK.refuses("tap(" + k + ", " + value + ")", () -> new FixedSignals().tap(k, value));
    }

    private static void noStage(int stage, int k, int value) {
        CHECK.refuses("stage(" + stage + ", " + k + ", " + value + ")", () -> new FixedSignals().stage(stage, k, value));
    }

    private static FixedSignals withTap(int k, int value) {
        FixedSignals signals = new FixedSignals();
        signals.tap(k, value);
        return signals;
    }

    private static FixedSignals withAllTaps(int value) {
        FixedSignals signals = new FixedSignals();
        for (int k = 0; k < 16; k++) {
            signals.tap(k, value);
        }
        return signals;
    }

    private static FixedSignals withCoefficient(int stage, int k, int value) {
        FixedSignals signals = new FixedSignals();
        signals.stage(stage, k, value);
        return signals;
    }

    private static void tapsAtFirst() {
        CHECK.sentence("TAPS are 0 at first");
        FixedSignals signals = new FixedSignals();
        for (int i = 0; i < 17; i++) {
            filter(signals, 32767, 0);
        }
        filter(signals, -32768, 0);
    }

    private static void pastInputsAtFirst() {
        CHECK.sentence("PAST inputs are 0 at first");
        filter(withAllTaps(32767), 0, 0);
        FixedSignals signals = withAllTaps(-32768);
        filter(signals, 1, -1);
        filter(signals, 1, -2);
    }

    private static void firstAndLastTap() {
        CHECK.sentence("TAPS 0 .. 15");
        filter(withTap(0, 16384), 1000, 500);
        FixedSignals last = withTap(15, 16384);
        filter(last, 1000, 0);
        for (int i = 1; i < 15; i++) {
            filter(last, 0, 0);
        }
        filter(last, 0, 500);
        filter(last, 0, 0);
        for (int k : new int[] {-1, -16, 16, 17, 32, LOW, TOP}) {
            noTap(k, 1);
        }
    }

    private static void tapValues() {
        CHECK.sentence("TAPS are SHORT");
        filter(withTap(0, 32767), 16384, 16384);
        filter(withTap(0, 32766), 16384, 16383);
        filter(withTap(0, -32768), 16384, -16384);
        filter(withTap(0, -32767), 16384, -16383);
        for (int value : new int[] {32768, -32769, 65535, 65536, LOW, TOP}) {
            noTap(0, value);
            noTap(15, value);
            noTap(16, value);
        }
    }

    private static void pastStays() {
        CHECK.sentence("A TAP is told; PAST inputs stay");
        for (int k = 1; k < 16; k++) {
            FixedSignals signals = new FixedSignals();
            for (int i = 1; i < 16; i++) {
                filter(signals, 100 * i, 0);
            }
            signals.tap(k, 16384);
            filter(signals, 0, 50 * (16 - k));
        }
    }

    private static void farthestPastInput() {
        CHECK.sentence("the sum of TAP k times the input k before (0 this one)");
        FixedSignals signals = withAllTaps(16384);
        filter(signals, 1000, 500);
        for (int k = 1; k < 16; k++) {
            filter(signals, 0, 500);
        }
        filter(signals, 0, 0);
    }

    private static void tapFilterRounding() {
        CHECK.sentence("TAP FILTER: ROUNDED by 15");
        FixedSignals signals = withTap(0, 1);
        filter(signals, 16383, 0);
        filter(signals, 16384, 1);
        filter(signals, -16384, 0);
        filter(signals, -16385, -1);
        FixedSignals sum = withTap(0, 1);
        sum.tap(1, 1);
        CHECK.sentence("TAP FILTER: the sum is ROUNDED, not what it is of");
        filter(sum, 8192, 0);
        filter(sum, 8191, 0);
        filter(sum, 8193, 1);
    }

    /** The answer to x with TAP 0, behind the input before with TAP 1. */
    private static void filterTwo(int tap0, int x, int tap1, int before, int want) {
        FixedSignals signals = new FixedSignals();
        signals.filter(before);
        signals.tap(0, tap0);
        signals.tap(1, tap1);
        filter(signals, x, want);
    }

    private static void tapFilterBounds() {
        CHECK.sentence("TAP FILTER: SAT as SHORT");
        // 32767 times 32767 is 1 above 32766 times 2^15.
        filterTwo(32767, 32767, 1, 16382, 32766);
        filterTwo(32767, 32767, 1, 16383, 32767);
        filterTwo(32767, 32767, 2, 24575, 32767);
        filterTwo(32767, 32767, 23, 2137, 32767);
        filterTwo(-32768, -32768, 0, 0, 32767);
        filterTwo(32767, 32767, 32767, 32767, 32767);
        // 32767 times -32768 is -32767 times 2^15.
        filterTwo(32767, -32768, 1, -16384, -32767);
        filterTwo(32767, -32768, 1, -16385, -32768);
        filterTwo(32767, -32768, 2, -24576, -32768);
        filterTwo(32767, -32768, 13, -3781, -32768);
        filterTwo(32767, -32768, 32767, -32768, -32768);
    }

    private static void tapFilterSums() {
        CHECK.sentence("Everything between is reckoned without bounds: the TAP FILTER's sum");
        FixedSignals most = withAllTaps(-32768);
        FixedSignals least = withAllTaps(32767);
        for (int i = 0; i < 16; i++) {
            filter(most, -32768, 32767);
            filter(least, -32768, i == 0 ? -32767 : -32768);
        }
        // 8 times 2^30 less 8 times 32767 2^15 is 8 times 2^15, whichever of the two is summed first.
        filterHalves(-32768, 32767);
        filterHalves(32767, -32768);
    }

    private static void filterHalves(int older, int newer) {
        FixedSignals signals = withAllTaps(-32768);
        for (int i = 0; i < 15; i++) {
            signals.filter(i < 8 ? older : newer);
        }
        filter(signals, newer, 8);
    }

    private static void tapFilterInputs() {
        CHECK.sentence("An input of the TAP FILTER. IllegalArgument: it is not SHORT");
        FixedSignals signals = withTap(0, 16384);
        filter(signals, 32767, 16384);
        filter(signals, 32766, 16383);
        filter(signals, -32768, -16384);
        filter(signals, -32767, -16383);
        signals.tap(0, 0);
        signals.tap(1, 16384);
        for (int x : new int[] {32768, -32769, 65535, 65536, LOW, TOP}) {
            CHECK.refuses("filter(" + x + ")", () -> signals.filter(x));
        }
        CHECK.sentence("What throws changes nothing: it is no PAST input");
        filter(signals, 0, -16383);
        filter(signals, 0, 0);
    }

    private static void coefficientsAtFirst() {
        CHECK.sentence("COEFFICIENTS 16384 0 0 0 0 at first");
        FixedSignals signals = new FixedSignals();
        for (int x : new int[] {32767, -32768, -32768, 32767, 1, 0, -1, 0, 0}) {
            chain(signals, x, x);
        }
    }

    private static void beforeAtFirst() {
        CHECK.sentence("two inputs and two answers of before, 0 at first");
        for (int stage = 0; stage < 4; stage++) {
            FixedSignals signals = new FixedSignals();
            for (int k = 1; k < 5; k++) {
                signals.stage(stage, k, -32768);
            }
            chain(signals, 0, 0);
            chain(signals, 0, 0);
            chain(signals, 7, 7);
        }
    }

    private static void firstAndLastStage() {
        CHECK.sentence("STAGES 0 .. 3");
        chain(withCoefficient(0, 0, 8192), 1000, 500);
        chain(withCoefficient(3, 0, 8192), 1000, 500);
        for (int stage : new int[] {-1, -4, 4, 5, LOW, TOP}) {
            noStage(stage, 0, 1);
            noStage(stage, 4, 1);
        }
    }

    private static void firstAndLastCoefficient() {
        CHECK.sentence("COEFFICIENT k (0 .. 4, in the order above) of a STAGE");
        int[][] answers = {{500, 0, 0, 0, 0}, {1000, 500, 0, 0, 0}, {1000, 0, 500, 0, 0}, {1000, -500, 250, -125, 63},
            {1000, 0, -500, 0, 250}};
        for (int stage = 0; stage < 4; stage++) {
            for (int k = 0; k < 5; k++) {
                FixedSignals signals = withCoefficient(stage, k, 8192);
                for (int i = 0; i < 5; i++) {
                    chain(signals, i == 0 ? 1000 : 0, answers[k][i]);
                }
            }
            for (int k : new int[] {-1, -5, 5, 6, LOW, TOP}) {
                noStage(stage, k, 1);
            }
        }
    }

    private static void coefficientValues() {
        CHECK.sentence("COEFFICIENTS are SHORT");
        chain(withCoefficient(0, 0, 32767), 8192, 16384);
        chain(withCoefficient(0, 0, 32766), 8192, 16383);
        chain(withCoefficient(0, 0, -32768), 8192, -16384);
        chain(withCoefficient(0, 0, -32767), 8192, -16383);
        for (int value : new int[] {32768, -32769, 65535, 65536, LOW, TOP}) {
            for (int k = 0; k < 5; k++) {
                noStage(0, k, value);
                noStage(3, k, value);
            }
        }
    }

    private static void farthestBefore() {
        CHECK.sentence("two inputs of before: no third one");
        FixedSignals inputs = withCoefficient(2, 0, 0);
        inputs.stage(2, 1, 16384);
        inputs.stage(2, 2, 16384);
        chain(inputs, 1000, 0);
        chain(inputs, 0, 1000);
        chain(inputs, 0, 1000);
        chain(inputs, 0, 0);
        CHECK.sentence("two answers of before: no third one");
        FixedSignals answers = new FixedSignals();
        chain(answers, 900, 900);
        chain(answers, 50, 50);
        chain(answers, 6, 6);
        answers.stage(1, 3, -16384);
        answers.stage(1, 4, -16384);
        chain(answers, 0, 56);
    }

    private static void stageRounding() {
        CHECK.sentence("STAGES: ROUNDED by 14");
        FixedSignals signals = withCoefficient(1, 0, 1);
        chain(signals, 8191, 0);
        chain(signals, 8192, 1);
        chain(signals, -8192, 0);
        chain(signals, -8193, -1);
        FixedSignals taken = withCoefficient(1, 0, 0);
        chain(taken, 0, 0);
        taken.stage(1, 0, 16384);
        chain(taken, 1, 1);
        taken.stage(1, 0, 0);
        taken.stage(1, 3, 8192);
        CHECK.sentence("STAGES: the sum is ROUNDED: - a1 y1 of a half less is cut to 0");
        chain(taken, 0, 0);
    }

    private static void stageBounds() {
        for (int stage = 0; stage < 4; stage++) {
            CHECK.sentence("STAGES: SAT as SHORT");
            FixedSignals high = withCoefficient(stage, 0, 32767);
            chain(high, 16383, 32765);
            chain(high, 16384, 32767);
            chain(high, 16385, 32767);
            chain(high, 32767, 32767);
            chain(high, -16384, -32767);
            chain(high, -16385, -32768);
            chain(high, -32768, -32768);
            FixedSignals low = withCoefficient(stage, 0, -32768);
            chain(low, 16383, -32766);
            chain(low, 16384, -32768);
            chain(low, 16385, -32768);
            chain(low, -16383, 32766);
            chain(low, -16384, 32767);
            chain(low, -32768, 32767);
        }
    }

    private static void stageSums() {
        CHECK.sentence("Everything between is reckoned without bounds: a STAGE's sum");
        FixedSignals signals = new FixedSignals();
        for (int k = 0; k < 3; k++) {
            signals.stage(0, k, -32768);
        }
        chain(signals, -32768, 32767);
        chain(signals, -32768, 32767);
        chain(signals, -32768, 32767);
        signals.stage(0, 3, -32768);
        signals.stage(0, 4, -32768);
        // 5 times about 2^30.
        chain(signals, -32768, 32767);
        signals.stage(0, 2, 0);
        signals.stage(0, 3, 32767);
        signals.stage(0, 4, 32767);
        // 2^31 less 2 times 32767^2 is 131070.
        chain(signals, -32768, 8);
    }

    private static void boundAnswerGoesOn() {
        CHECK.sentence("SAT as SHORT; it goes to the next STAGE");
        for (int stage = 0; stage < 3; stage++) {
            FixedSignals signals = withCoefficient(stage, 0, 32767);
            signals.stage(stage + 1, 0, 8192);
            chain(signals, 32767, 16384);
            chain(signals, 16383, 16383);
            chain(signals, -32768, -16384);
        }
        CHECK.sentence("two answers of before: the bound, where it became the answer");
        FixedSignals kept = withCoefficient(3, 0, 32767);
        kept.stage(3, 3, -16384);
        chain(kept, 32767, 32767);
        chain(kept, 0, 32767);
        chain(kept, -1, 32765);
    }

    private static void chainInputs() {
        CHECK.sentence("An input of the first STAGE. IllegalArgument: it is not SHORT");
        FixedSignals signals = new FixedSignals();
        chain(signals, 32767, 32767);
        chain(signals, -32768, -32768);
        chain(signals, 300, 300);
        for (int x : new int[] {32768, -32769, 65535, 65536, LOW, TOP}) {
            CHECK.refuses("chain(" + x + ")", () -> signals.chain(x));
        }
        CHECK.sentence("What throws changes nothing: neither inputs nor answers of before");
        signals.stage(0, 1, 16384);
        signals.stage(3, 4, -8192);
        chain(signals, 0, 300 - 16384);
    }

    private static void calmTapFilter() {
        CHECK.sentence("calm: All PAST inputs are 0");
        for (int k = 1; k < 16; k++) {
            FixedSignals signals = new FixedSignals();
            for (int i = 0; i < 16; i++) {
                signals.filter(32767);
            }
            signals.calm();
            signals.tap(k, 32767);
            filter(signals, 0, 0);
        }
        FixedSignals made = withTap(0, 16384);
        made.calm();
        made.calm();
        filter(made, 1000, 500);
    }

    private static void calmStages() {
        CHECK.sentence("calm: what STAGES have of before, is 0");
        for (int stage = 0; stage < 4; stage++) {
            for (int k = 1; k < 5; k++) {
                FixedSignals signals = new FixedSignals();
                for (int i = 0; i < 4; i++) {
                    signals.chain(32767);
                }
                signals.calm();
                signals.stage(stage, k, 16384);
                chain(signals, 0, 0);
                chain(signals, 0, 0);
            }
        }
        FixedSignals made = new FixedSignals();
        made.calm();
        chain(made, -32768, -32768);
    }

    private static void calmLeavesTheRest() {
        CHECK.sentence("calm: TAPS, COEFFICIENTS, THE BLOCK and the EXPONENT are not among what is 0");
        FixedSignals signals = withAllTaps(16384);
        signals.stage(0, 0, 8192);
        signals.stage(3, 2, 16384);
        signals.put(0, 1 << 29, 12);
        signals.put(31, -5, LOW);
        CHECK.due("transform(1, false)", signals.transform(1, false), 1);
        signals.calm();
        filter(signals, 1000, 500);
        for (int k = 1; k < 16; k++) {
            filter(signals, 0, 500);
        }
        chain(signals, 1000, 500);
        chain(signals, 0, 0);
        chain(signals, 0, 500);
        CHECK.due("get(0, false)", signals.get(0, false), 1 << 28);
        CHECK.due("get(1, true)", signals.get(1, true), 6);
        CHECK.due("get(31, false)", signals.get(31, false), -5);
        CHECK.due("get(31, true)", signals.get(31, true), LOW);
        CHECK.due("the exponent", signals.transform(0, false), 1);
    }
}
