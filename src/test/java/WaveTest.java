/** Promise 13. */
public final class WaveTest {
    private static final int QUARTER = 1 << 30;
    private static final Check CHECK = new Check();
    private static final Model MODEL = new Model();

    public static void main(String[] args) {
        int[] edges = {
            0, 1, -1, 2, -2, QUARTER, QUARTER - 1, QUARTER + 1, -QUARTER, -QUARTER + 1, -QUARTER - 1,
            Integer.MIN_VALUE, Integer.MIN_VALUE + 1, Integer.MAX_VALUE, QUARTER / 2, -QUARTER / 2, 536870911, 536870913
        };
        for (int angle : edges) {
            dueBoth(new FixedSignals(), angle);
        }
        int angle = 12345;
        for (int run = 0; run < 20; run++) {
            FixedSignals signals = new FixedSignals();
            for (int i = 0; i < 256; i++) {
                angle = angle * 1664525 + 1013904223;
                dueBoth(signals, angle);
            }
        }
        halfTurnIsTurnedRound(new FixedSignals());
        CHECK.end();
    }

    private static void dueBoth(FixedSignals signals, int angle) {
        int cosine = signals.wave(angle, true);
        int sine = signals.wave(angle, false);
        CHECK.due("wave(" + angle + ", true)", cosine, MODEL.wave(angle, true));
        CHECK.due("wave(" + angle + ", false)", sine, MODEL.wave(angle, false));
        double turn = Math.PI * angle / 2147483648.0;
        CHECK.near("the cosine of " + angle, cosine, QUARTER * Math.cos(turn), 64);
        CHECK.near("the sine of " + angle, sine, QUARTER * Math.sin(turn), 64);
    }

    private static void halfTurnIsTurnedRound(FixedSignals signals) {
        for (int near = -5; near <= 5; near++) {
            int far = near + Integer.MIN_VALUE;
            CHECK.due("the cosine half a turn on", signals.wave(far, true), -signals.wave(near, true));
            CHECK.due("the sine half a turn on", signals.wave(far, false), -signals.wave(near, false));
        }
    }
}
