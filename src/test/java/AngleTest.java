/** Promises 14 and 15. */
public final class AngleTest {
    private static final int MOST = 1 << 29;
    private static final Check CHECK = new Check();
    private static final Model MODEL = new Model();

    public static void main(String[] args) {
        nought();
        edges();
        manyPoints();
        wrongInputs();
        CHECK.end();
    }

    private static void nought() {
        FixedSignals signals = new FixedSignals();
        CHECK.due("angle(0, 0)", signals.angle(0, 0), 0);
        CHECK.due("length(0, 0)", signals.length(0, 0), 0);
        signals.angle(5, 5);
        CHECK.due("angle(0, 0)", signals.angle(0, 0), 0);
        CHECK.due("length(0, 0)", signals.length(0, 0), 0);
    }

    private static void edges() {
        FixedSignals signals = new FixedSignals();
        int[] numbers = {-MOST, -MOST + 1, -30000, -4, -3, -1, 0, 1, 3, 4, 40000, MOST - 1, MOST};
        for (int x : numbers) {
            for (int y : numbers) {
                due(signals, x, y);
            }
        }
        int half = signals.angle(-MOST, 0);
        CHECK.holds("half a turn is at one of its ends", Math.abs((long) half) > 2147483648L - 64);
    }

    private static void manyPoints() {
        java.util.Random numbers = new java.util.Random(14);
        for (int i = 0; i < 3000; i++) {
            FixedSignals signals = new FixedSignals();
            int x = numbers.nextInt() >> 2;
            int y = numbers.nextInt() >> 2;
            due(signals, x, y);
            due(signals, x >> i % 29, y >> i % 29);
            nearTruth(signals, x, y);
        }
    }

    private static void due(FixedSignals signals, int x, int y) {
        CHECK.due("angle(" + x + ", " + y + ")", signals.angle(x, y), MODEL.angle(x, y));
        CHECK.due("length(" + x + ", " + y + ")", signals.length(x, y), MODEL.length(x, y));
    }

    private static void nearTruth(FixedSignals signals, int x, int y) {
        double length = Math.hypot(x, y);
        CHECK.near("the length of " + x + ", " + y, signals.length(x, y), length, 64);
        if (length < 1 << 20) {
            return;
        }
        double turn = Math.PI * signals.angle(x, y) / 2147483648.0;
        CHECK.near("across " + x + ", " + y, Math.cos(turn) * y - Math.sin(turn) * x, 0, 64);
        CHECK.holds("the angle points to " + x + ", " + y, Math.cos(turn) * x + Math.sin(turn) * y > 0);
    }

    private static void wrongInputs() {
        FixedSignals signals = new FixedSignals();
        int[] none = {MOST + 1, -MOST - 1, Integer.MAX_VALUE, Integer.MIN_VALUE};
        for (int number : none) {
            CHECK.refuses("angle(" + number + ", 0)", () -> signals.angle(number, 0));
            CHECK.refuses("angle(0, " + number + ")", () -> signals.angle(0, number));
            CHECK.refuses("length(" + number + ", 0)", () -> signals.length(number, 0));
            CHECK.refuses("length(0, " + number + ")", () -> signals.length(0, number));
        }
    }
}
