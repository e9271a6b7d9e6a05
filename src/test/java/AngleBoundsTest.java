/** Each sentence that names a bound of angles: WAVES, ANGLE and LENGTH, promises 13 to 15. */
public final class AngleBoundsTest {
    private static final int QUARTER = 1 << 30;
    private static final int MOST = 1 << 29;
    private static final int LOW = Integer.MIN_VALUE;
    private static final int TOP = Integer.MAX_VALUE;
    private static final Check CHECK = new Check();

    public static void main(String[] args) {
        noughtIsNotBelow();
        quarterTurnIsNotBeyond();
        beyondQuarterTurn();
        farthestAngles();
        noughtPoint();
        xOfNoughtIsNotBelow();
        yOfNoughtIsNotBelow();
        angleGoesRound();
        farthestPoints();
        tooFar();
        CHECK.end();
    }

    private static void waves(int angle, int cosine, int sine) {
        FixedSignals signals = new FixedSignals();
        CHECK.due("wave(" + angle + ", true)", signals.wave(angle, true), cosine);
        CHECK.due("wave(" + angle + ", false)", signals.wave(angle, false), sine);
    }

    private static void angle(int x, int y, int want) {
        CHECK.due("angle(" + x + ", " + y + ")", new FixedSignals().angle(x, y), want);
    }

    private static void length(int x, int y, int want) {
        CHECK.due("length(" + x + ", " + y + ")", new FixedSignals().length(x, y), want);
    }

    private static void noughtIsNotBelow() {
        CHECK.sentence("WAVES: if z is below 0: .., else ..");
        waves(-1, 1073741832, -7);
        waves(0, 1073741828, 6);
        waves(1, 1073741828, 6);
    }

    private static void quarterTurnIsNotBeyond() {
        CHECK.sentence("WAVES: if it is beyond 2^30 in size: 2^30 is not");
        waves(QUARTER - 1, 6, 1073741828);
        waves(QUARTER, 2, 1073741829);
        waves(-QUARTER + 1, 3, -1073741828);
        waves(-QUARTER, 3, -1073741828);
    }

    private static void beyondQuarterTurn() {
        CHECK.sentence("WAVES: beyond 2^30 it is taken 2^31 less (more, if below 0), and both answers are turned round");
        waves(QUARTER + 1, -3, 1073741828);
        waves(-QUARTER - 1, -6, -1073741828);
    }

    private static void farthestAngles() {
        CHECK.sentence("WAVES: ANGLES are LONG, 2^31 being half a turn");
        waves(TOP, -1073741832, 7);
        waves(TOP - 1, -1073741832, 7);
        waves(LOW, -1073741828, -6);
        waves(LOW + 1, -1073741828, -6);
    }

    private static void noughtPoint() {
        CHECK.sentence("z, going round as an int, is the ANGLE (of 0, 0: 0)");
        angle(0, 0, 0);
        length(0, 0, 0);
        angle(1, 0, -117908373);
        length(1, 0, 18);
        angle(0, 1, 1191650197);
        length(0, 1, 1);
        angle(-1, 0, 2029575275);
        length(-1, 0, 18);
        angle(0, -1, -1191650197);
        length(0, -1, 18);
    }

    private static void xOfNoughtIsNotBelow() {
        CHECK.sentence("ANGLE: if x is below 0, both are turned round, and z is -2^31 at first, else 0");
        angle(1, MOST, 1073741827);
        angle(0, MOST, 1073741827);
        angle(-1, MOST, 1073741821);
        length(1, MOST, 536870914);
        length(0, MOST, 536870915);
        length(-1, MOST, 536870918);
        angle(1, -MOST, -1073741827);
        angle(0, -MOST, -1073741827);
        angle(-1, -MOST, -1073741821);
        length(1, -MOST, 536870918);
        length(0, -MOST, 536870918);
        length(-1, -MOST, 536870914);
    }

    private static void yOfNoughtIsNotBelow() {
        CHECK.sentence("ANGLE: if y is below 0: .., else ..");
        angle(MOST, -1, 3);
        angle(MOST, 0, -3);
        angle(MOST, 1, -3);
        length(MOST, -1, 536870914);
        length(MOST, 0, 536870918);
        length(MOST, 1, 536870918);
    }

    private static void angleGoesRound() {
        CHECK.sentence("z, going round as an int, is the ANGLE");
        // The arcs' sum is odd, so -2^31 itself is never met: z is -2^31 + 1, then -2^31 - 1.
        angle(-MOST, -5, -2147483647);
        angle(-MOST, -3, 2147483647);
        angle(-MOST, 1, -2147483645);
        angle(-MOST, 0, 2147483645);
        angle(-MOST, -1, 2147483645);
        angle(-MOST, MOST, 1610612741);
        angle(-MOST, -MOST, -1610612731);
    }

    private static void farthestPoints() {
        CHECK.sentence("ANGLE of x, y, each from -2^29 to 2^29");
        angle(MOST - 1, 0, -7);
        length(MOST - 1, 0, 536870916);
        angle(-MOST + 1, 0, 2147483641);
        length(-MOST + 1, 0, 536870916);
        angle(0, MOST - 1, 1073741827);
        length(0, MOST - 1, 536870914);
        angle(0, -MOST + 1, -1073741831);
        length(0, -MOST + 1, 536870916);
        angle(MOST, MOST, 536870917);
        angle(MOST, -MOST, -536870907);
        for (int sign = -1; sign <= 1; sign += 2) {
            length(sign * MOST, 0, 536870918);
            length(sign * MOST, MOST, 759250127);
            length(sign * MOST, -MOST, 759250127);
        }
    }

    private static void tooFar() {
        CHECK.sentence("IllegalArgument: one is beyond 2^29 in size");
        for (int far : new int[] {MOST + 1, -MOST - 1, QUARTER, -QUARTER, TOP, LOW}) {
            for (int other : new int[] {0, 1, MOST, -MOST, far}) {
                refusesPoint(far, other);
                refusesPoint(other, far);
            }
        }
    }

    private static void refusesPoint(int x, int y) {
        CHECK.refuses("angle(" + x + ", " + y + ")", () -> new FixedSignals().angle(x, y));
        CHECK.refuses("length(" + x + ", " + y + ")", () -> new FixedSignals().length(x, y));
    }
}
