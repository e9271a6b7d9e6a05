/** Signals in numbers of fixed point: sums and products, two kinds of filter, a transform into waves, angles. */
public final class FixedSignals {
    private static final long LONG_LOW = -2147483648L;
    private static final long LONG_TOP = 2147483647L;
    private static final int SHORT_LOW = -32768;
    private static final int SHORT_TOP = 32767;
    private static final int LONG_BITS = 31;
    private static final int SHORT_BITS = 15;

    private static final int ADD = 0;
    private static final int SUBTRACT = 1;
    private static final int MULTIPLY = 2;
    private static final int MOVE = 3;
    private static final int NEGATE = 4;
    private static final int SIZE = 5;

    private static final int STAGE_COUNT = 4;
    private static final int FARTHEST_POINT = 1 << 29;

    private final TapFilter tapFilter;
    private final Stage[] stages;
    private final Block block;
    private final Turner turner;

    public FixedSignals() {
        tapFilter = new TapFilter();
        stages = new Stage[STAGE_COUNT];
        for (int i = 0; i < STAGE_COUNT; i++) {
            stages[i] = new Stage();
        }
        block = new Block();
        turner = new Turner();
    }

    public int work(int way, int a, int b) throws IllegalArgumentException {
        if (!isWay(way, b, LONG_BITS)) {
            throw new IllegalArgumentException();
        }
        return satLong(reckoned(way, a, b, LONG_BITS));
    }

    public int small(int way, int a, int b) throws IllegalArgumentException {
        if (!isWay(way, b, SHORT_BITS) || !isShort(a)) {
            throw new IllegalArgumentException();
        }
        if (way <= MULTIPLY && !isShort(b)) {
            throw new IllegalArgumentException();
        }
        return satShort(reckoned(way, a, b, SHORT_BITS));
    }

    public int narrow(int a) {
        return satShort(rounded(a, 16));
    }

    public void tap(int k, int value) throws IllegalArgumentException {
        if (!isWithin(k, TapFilter.TAP_COUNT) || !isShort(value)) {
            throw new IllegalArgumentException();
        }
        tapFilter.taps[k] = value;
    }

    public int filter(int x) throws IllegalArgumentException {
        if (!isShort(x)) {
            throw new IllegalArgumentException();
        }
        return tapFilter.answerTo(x);
    }

    public void stage(int stage, int k, int value) throws IllegalArgumentException {
        if (!isWithin(stage, STAGE_COUNT) || !isWithin(k, Stage.COEFFICIENT_COUNT) || !isShort(value)) {
            throw new IllegalArgumentException();
        }
        stages[stage].coefficients[k] = value;
    }

    public int chain(int x) throws IllegalArgumentException {
        if (!isShort(x)) {
            throw new IllegalArgumentException();
        }
        int signal = x;
        for (int i = 0; i < STAGE_COUNT; i++) {
            signal = stages[i].answerTo(signal);
        }
        return signal;
    }

    public void calm() {
        tapFilter.forget();
        for (int i = 0; i < STAGE_COUNT; i++) {
            stages[i].forget();
        }
    }

    public void put(int place, int re, int im) throws IllegalArgumentException {
        if (!isWithin(place, Block.PLACE_COUNT)) {
            throw new IllegalArgumentException();
        }
        block.re[place] = re;
        block.im[place] = im;
        block.exponent = 0;
    }

    public int transform(int m, boolean back) throws IllegalArgumentException {
        if (m < 0 || m > Block.MOST_BITS) {
            throw new IllegalArgumentException();
        }
        block.intoWaves(m, back);
        return block.exponent;
    }

    public int get(int place, boolean second) throws IllegalArgumentException {
        if (!isWithin(place, Block.PLACE_COUNT)) {
            throw new IllegalArgumentException();
        }
        return second ? block.im[place] : block.re[place];
    }

    public int wave(int angle, boolean cosine) {
        turner.turnByAngle(angle);
        return (int) (cosine ? turner.x : turner.y);
    }

    public int angle(int x, int y) throws IllegalArgumentException {
        if (!isPoint(x, y)) {
            throw new IllegalArgumentException();
        }
        // The turns would add up to some angle even where there is no direction.
        if (x == 0 && y == 0) {
            return 0;
        }
        turner.turnToAxis(x, y);
        return (int) turner.z;
    }

    public int length(int x, int y) throws IllegalArgumentException {
        if (!isPoint(x, y)) {
            throw new IllegalArgumentException();
        }
        turner.turnToAxis(x, y);
        return (int) rounded(turner.x * Turner.SHRINK, 30);
    }

    private static boolean isWay(int way, int b, int mostBits) {
        if (way == MOVE) {
            return b >= -mostBits && b <= mostBits;
        }
        return way >= ADD && way <= SIZE;
    }

    private static boolean isShort(int value) {
        return value >= SHORT_LOW && value <= SHORT_TOP;
    }

    private static boolean isWithin(int index, int count) {
        return index >= 0 && index < count;
    }

    private static boolean isPoint(int x, int y) {
        return isCoordinate(x) && isCoordinate(y);
    }

    private static boolean isCoordinate(int value) {
        return value >= -FARTHEST_POINT && value <= FARTHEST_POINT;
    }

    private static long reckoned(int way, long a, long b, int bits) {
        switch (way) {
            case ADD:
                return a + b;
            case SUBTRACT:
                return a - b;
            case MULTIPLY:
                return rounded(a * b, bits);
            case MOVE:
                return moved(a, (int) b);
            case NEGATE:
                return -a;
            default:
                return sizeOf(a);
        }
    }

    private static long moved(long value, int bits) {
        return bits >= 0 ? value << bits : rounded(value, -bits);
    }

    private static long sizeOf(long value) {
        return value < 0 ? -value : value;
    }

    /** For one bit or more: no caller rounds by none. */
    private static long rounded(long value, int bits) {
        return (value + (1L << (bits - 1))) >> bits;
    }

    private static int satLong(long value) {
        return (int) Math.max(LONG_LOW, Math.min(LONG_TOP, value));
    }

    private static int satShort(long value) {
        return (int) Math.max(SHORT_LOW, Math.min(SHORT_TOP, value));
    }

    /** A sum of taps times the inputs of before. */
    private static final class TapFilter {
        private static final int TAP_COUNT = 16;

        private final int[] taps = new int[TAP_COUNT];
        private final int[] inputs = new int[TAP_COUNT];

        private int answerTo(int x) {
            takeIn(x);
            long sum = 0;
            for (int k = 0; k < TAP_COUNT; k++) {
                sum += (long) taps[k] * inputs[k];
            }
            return satShort(rounded(sum, 15));
        }

        private void takeIn(int x) {
            for (int k = TAP_COUNT - 1; k > 0; k--) {
                inputs[k] = inputs[k - 1];
            }
            inputs[0] = x;
        }

        private void forget() {
            for (int k = 0; k < TAP_COUNT; k++) {
                inputs[k] = 0;
            }
        }
    }

    /** A filter that looks two inputs and two of its own answers back. */
    private static final class Stage {
        private static final int COEFFICIENT_COUNT = 5;
        private static final int ONE = 16384;

        private final int[] coefficients = new int[COEFFICIENT_COUNT];
        private int x1;
        private int x2;
        private int y1;
        private int y2;

        private Stage() {
            coefficients[0] = ONE;
        }

        private int answerTo(int x) {
            long sum = (long) coefficients[0] * x;
            sum += (long) coefficients[1] * x1;
            sum += (long) coefficients[2] * x2;
            sum -= (long) coefficients[3] * y1;
            sum -= (long) coefficients[4] * y2;
            int y = satShort(rounded(sum, 14));
            x2 = x1;
            x1 = x;
            y2 = y1;
            y1 = y;
            return y;
        }

        private void forget() {
            x1 = 0;
            x2 = 0;
            y1 = 0;
            y2 = 0;
        }
    }

    /** Places of two numbers each that share one exponent. */
    private static final class Block {
        private static final int MOST_BITS = 5;
        private static final int PLACE_COUNT = 1 << MOST_BITS;
        private static final long TOO_BIG = 1L << 29;
        private static final int HALF_TURN = 16;
        private static final int QUARTER_TURN = 8;
        private static final int[] QUARTER = {
            0, 418953276, 821806413, 1193077991, 1518500250, 1785567396, 1984016189, 2106220352, 2147483647
        };

        private final int[] re = new int[PLACE_COUNT];
        private final int[] im = new int[PLACE_COUNT];
        private int exponent;

        private void intoWaves(int bits, boolean back) {
            int count = 1 << bits;
            reorder(bits);
            for (int half = 1; half < count; half *= 2) {
                makeRoom(count);
                for (int p = 0; p < count; p++) {
                    // Places of a group's second half are the partners of its first half.
                    if ((p & half) == 0) {
                        cross(p, half, back);
                    }
                }
            }
        }

        private void reorder(int bits) {
            for (int p = 0; p < 1 << bits; p++) {
                int q = bitsTurnedRound(p, bits);
                // Each pair is met twice and must be swapped once.
                if (p < q) {
                    swap(re, p, q);
                    swap(im, p, q);
                }
            }
        }

        private static int bitsTurnedRound(int number, int bits) {
            int turned = 0;
            for (int i = 0; i < bits; i++) {
                turned = turned * 2 + ((number >> i) & 1);
            }
            return turned;
        }

        private static void swap(int[] row, int p, int q) {
            int kept = row[p];
            row[p] = row[q];
            row[q] = kept;
        }

        /** The document says "then again" once, so numbers of just 2^29 may be left. */
        private void makeRoom(int count) {
            for (int i = 0; i < 2 && isTooBig(count); i++) {
                for (int p = 0; p < count; p++) {
                    re[p] = (int) rounded(re[p], 1);
                    im[p] = (int) rounded(im[p], 1);
                }
                exponent++;
            }
        }

        private boolean isTooBig(int count) {
            for (int p = 0; p < count; p++) {
                if (sizeOf(re[p]) >= TOO_BIG || sizeOf(im[p]) >= TOO_BIG) {
                    return true;
                }
            }
            return false;
        }

        private void cross(int p, int half, boolean back) {
            int q = p + half;
            int k = (p & (half - 1)) * HALF_TURN / half;
            long c = cosineOf(k);
            // The way back is the same turn with the sine's sign changed.
            long s = back ? -sineOf(k) : sineOf(k);
            long u = rounded(re[q] * c + im[q] * s, 31);
            long v = rounded(im[q] * c - re[q] * s, 31);
            long pRe = re[p];
            long pIm = im[p];
            re[p] = satLong(pRe + u);
            im[p] = satLong(pIm + v);
            re[q] = satLong(pRe - u);
            im[q] = satLong(pIm - v);
        }

        private static long cosineOf(int k) {
            return k <= QUARTER_TURN ? QUARTER[QUARTER_TURN - k] : -QUARTER[k - QUARTER_TURN];
        }

        private static long sineOf(int k) {
            return k <= QUARTER_TURN ? QUARTER[k] : QUARTER[HALF_TURN - k];
        }
    }

    /** A point that is turned bit by bit; kept and used again so that no call makes an object. */
    private static final class Turner {
        private static final long SHRINK = 652032874L;
        private static final long HALF_TURN = 1L << 31;
        private static final long QUARTER_TURN = 1L << 30;
        private static final int TURN_COUNT = 30;
        private static final int[] ARCS = {
            536870912, 316933406, 167458907, 85004756, 42667331, 21354465, 10679838, 5340245, 2670163, 1335087,
            667544, 333772, 166886, 83443, 41722, 20861, 10430, 5215, 2608, 1304,
            652, 326, 163, 81, 41, 20, 10, 5, 3, 1
        };

        private long x;
        private long y;
        private long z;

        /** Leaves the cosine in x and the sine in y. */
        private void turnByAngle(long angle) {
            boolean isFar = sizeOf(angle) > QUARTER_TURN;
            x = SHRINK;
            y = 0;
            z = angle;
            if (isFar) {
                z = angle < 0 ? angle + HALF_TURN : angle - HALF_TURN;
            }
            for (int i = 0; i < TURN_COUNT; i++) {
                turn(i, z >= 0);
            }
            if (isFar) {
                x = -x;
                y = -y;
            }
        }

        /** Leaves the grown length in x and the angle in z. */
        private void turnToAxis(long startX, long startY) {
            boolean isBehind = startX < 0;
            x = isBehind ? -startX : startX;
            y = isBehind ? -startY : startY;
            z = isBehind ? -HALF_TURN : 0;
            for (int i = 0; i < TURN_COUNT; i++) {
                turn(i, y < 0);
            }
        }

        private void turn(int i, boolean isUp) {
            long partOfX = x >> i;
            long partOfY = y >> i;
            if (isUp) {
                x -= partOfY;
                y += partOfX;
                z -= ARCS[i];
            } else {
                x += partOfY;
                y -= partOfX;
                z += ARCS[i];
            }
        }
    }
}
