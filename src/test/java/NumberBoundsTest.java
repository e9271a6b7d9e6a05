/** Each sentence that names a bound of numbers: LONG, SHORT, SAT and ROUNDED, promises 2 to 4. */
public final class NumberBoundsTest {
    private static final int LOW = Integer.MIN_VALUE;
    private static final int TOP = Integer.MAX_VALUE;
    private static final int SHORT_LOW = -32768;
    private static final int SHORT_TOP = 32767;
    private static final int QUARTER = 1 << 30;
    private static final Check CHECK = new Check();

    public static void main(String[] args) {
        longIsAnInt();
        longSums();
        longProducts();
        longMoves();
        longSigns();
        longRounding();
        longMoveBounds();
        longWays();
        shortNumbers();
        shortSums();
        shortProducts();
        shortMoves();
        shortSigns();
        shortRounding();
        shortMoveBounds();
        shortWays();
        narrowRounding();
        narrowBounds();
        CHECK.end();
    }

    private static void work(int way, int a, int b, long want) {
        CHECK.due("work(" + way + ", " + a + ", " + b + ")", new FixedSignals().work(way, a, b), want);
    }

    private static void noWork(int way, int a, int b) {
        CHECK.refuses("work(" + way + ", " + a + ", " + b + ")", () -> new FixedSignals().work(way, a, b));
    }

    private static void small(int way, int a, int b, long want) {
        CHECK.due("small(" + way + ", " + a + ", " + b + ")", new FixedSignals().small(way, a, b), want);
    }

    private static void noSmall(int way, int a, int b) {
        CHECK.refuses("small(" + way + ", " + a + ", " + b + ")", () -> new FixedSignals().small(way, a, b));
    }

    private static void narrow(int a, long want) {
        CHECK.due("narrow(" + a + ")", new FixedSignals().narrow(a), want);
    }

    private static void longIsAnInt() {
        CHECK.sentence("A LONG number is an int");
        work(0, TOP, 0, TOP);
        work(0, LOW, 0, LOW);
        work(0, 0, TOP, TOP);
        work(0, 0, LOW, LOW);
        work(1, TOP, 0, TOP);
        work(1, LOW, 0, LOW);
        work(2, TOP, 0, 0);
        work(2, 0, LOW, 0);
        work(3, TOP, 0, TOP);
        work(3, LOW, 0, LOW);
    }

    private static void longSums() {
        CHECK.sentence("SAT: what would be beyond their bounds becomes the bound: 0 a + b, 1 a - b");
        work(0, TOP - 2, 1, TOP - 1);
        work(0, TOP - 1, 1, TOP);
        work(0, TOP, 1, TOP);
        work(0, 1, TOP, TOP);
        work(0, TOP, TOP, TOP);
        work(0, LOW + 2, -1, LOW + 1);
        work(0, LOW + 1, -1, LOW);
        work(0, LOW, -1, LOW);
        work(0, -1, LOW, LOW);
        work(0, LOW, LOW, LOW);
        work(1, TOP - 1, -1, TOP);
        work(1, TOP, -1, TOP);
        work(1, -2, LOW, TOP - 1);
        work(1, -1, LOW, TOP);
        work(1, 0, LOW, TOP);
        work(1, TOP, LOW, TOP);
        work(1, LOW + 1, 1, LOW);
        work(1, LOW, 1, LOW);
        work(1, 0, TOP, LOW + 1);
        work(1, -1, TOP, LOW);
        work(1, -2, TOP, LOW);
        work(1, LOW, TOP, LOW);
    }

    private static void longProducts() {
        CHECK.sentence("SAT: 2 a b ROUNDED by 31");
        work(2, LOW, LOW + 2, TOP - 1);
        work(2, LOW, LOW + 1, TOP);
        work(2, LOW, LOW, TOP);
        work(2, TOP, TOP, TOP - 1);
        work(2, LOW, TOP, LOW + 1);
        work(2, TOP, LOW, LOW + 1);
    }

    private static void longMoves() {
        CHECK.sentence("SAT: 3 a moved by b bits");
        work(3, QUARTER - 1, 1, TOP - 1);
        work(3, QUARTER, 1, TOP);
        work(3, -QUARTER + 1, 1, LOW + 2);
        work(3, -QUARTER, 1, LOW);
        work(3, -QUARTER - 1, 1, LOW);
        work(3, 1, 30, QUARTER);
        work(3, 2, 30, TOP);
        work(3, -2, 30, LOW);
        work(3, -3, 30, LOW);
        work(3, 0, 31, 0);
        work(3, 1, 31, TOP);
        work(3, -1, 31, LOW);
        work(3, -2, 31, LOW);
        work(3, TOP, 31, TOP);
        work(3, LOW, 31, LOW);
    }

    private static void longSigns() {
        CHECK.sentence("SAT: 4 - a, 5 the size of a");
        work(4, LOW + 2, 0, TOP - 1);
        work(4, LOW + 1, 0, TOP);
        work(4, LOW, 0, TOP);
        work(4, TOP, 0, LOW + 1);
        work(4, 0, 0, 0);
        work(5, LOW + 2, 0, TOP - 1);
        work(5, LOW + 1, 0, TOP);
        work(5, LOW, 0, TOP);
        work(5, TOP, 0, TOP);
        work(5, -1, 0, 1);
        work(5, 0, 0, 0);
    }

    private static void longRounding() {
        CHECK.sentence("ROUNDED by k bits: 2^(k - 1) more, divided by 2^k, cut downwards (k = 0: as it is)");
        for (int k = 1; k <= 31; k++) {
            int half = 1 << (k - 1);
            work(3, half - 1, -k, 0);
            work(3, half, -k, 1);
            work(3, -half, -k, 0);
            work(3, -half - 1, -k, -1);
        }
        work(3, 3 * (QUARTER >> 1) - 1, -30, 1);
        work(3, 3 * (QUARTER >> 1), -30, 2);
        work(3, -3 * (QUARTER >> 1), -30, -1);
        work(3, -3 * (QUARTER >> 1) - 1, -30, -2);
        for (int a : new int[] {LOW, LOW + 1, -1, 0, 1, TOP}) {
            work(3, a, 0, a);
        }
        work(2, QUARTER - 1, 1, 0);
        work(2, QUARTER, 1, 1);
        work(2, -QUARTER, 1, 0);
        work(2, -QUARTER - 1, 1, -1);
        CHECK.sentence("Everything between is reckoned without bounds: 2^(k - 1) more than the largest LONG number");
        work(3, TOP, -1, QUARTER);
        work(3, TOP, -31, 1);
        work(3, LOW, -1, -QUARTER);
        work(3, LOW, -31, -1);
    }

    private static void longMoveBounds() {
        CHECK.sentence("3 a moved by b bits (-31 .. 31); IllegalArgument: b for 3");
        work(3, 3, 31, TOP);
        work(3, 3, -31, 0);
        for (int b : new int[] {32, 33, 63, 64, TOP, -32, -33, -63, -64, LOW}) {
            noWork(3, 3, b);
            noWork(3, 0, b);
        }
        CHECK.sentence("b is refused for 3 alone");
        work(0, 1, 32, 33);
        work(1, 1, -32, 33);
        work(2, QUARTER, 32, 16);
        work(4, 7, 32, -7);
        work(4, 7, LOW, -7);
        work(5, -7, -32, 7);
        work(5, -7, TOP, 7);
    }

    private static void longWays() {
        CHECK.sentence("way = 0 .. 5; IllegalArgument: another way");
        work(0, 40, 2, 42);
        work(5, -40, 2, 40);
        for (int way : new int[] {-1, -2, 6, 7, LOW, TOP}) {
            noWork(way, 40, 2);
        }
    }

    private static void shortNumbers() {
        CHECK.sentence("a SHORT one from -32768 to 32767; IllegalArgument: also if a is not SHORT");
        for (int way = 0; way <= 5; way++) {
            noSmall(way, SHORT_TOP + 1, 0);
            noSmall(way, SHORT_LOW - 1, 0);
            noSmall(way, 65536, 0);
            noSmall(way, TOP, 0);
            noSmall(way, LOW, 0);
        }
        for (int a : new int[] {SHORT_LOW, SHORT_TOP}) {
            small(0, a, 0, a);
            small(1, a, 0, a);
            small(2, a, 0, 0);
            small(3, a, 0, a);
        }
        CHECK.sentence("IllegalArgument: also if b, for 0, 1, 2, is not SHORT");
        small(0, 0, SHORT_TOP, SHORT_TOP);
        small(0, 0, SHORT_LOW, SHORT_LOW);
        small(1, 0, SHORT_TOP, -SHORT_TOP);
        small(1, -1, SHORT_LOW, SHORT_TOP);
        small(2, 16384, SHORT_TOP, 16384);
        small(2, 16384, SHORT_LOW, -16384);
        for (int way = 0; way <= 2; way++) {
            noSmall(way, 0, SHORT_TOP + 1);
            noSmall(way, 0, SHORT_LOW - 1);
            noSmall(way, 0, 65536);
            noSmall(way, 0, TOP);
            noSmall(way, 0, LOW);
        }
        for (int b : new int[] {SHORT_TOP + 1, SHORT_LOW - 1, TOP, LOW}) {
            small(4, 9, b, -9);
            small(5, -9, b, 9);
        }
    }

    private static void shortSums() {
        CHECK.sentence("small: SHORT numbers, likewise: SAT of 0 a + b, 1 a - b");
        small(0, SHORT_TOP - 2, 1, SHORT_TOP - 1);
        small(0, SHORT_TOP - 1, 1, SHORT_TOP);
        small(0, SHORT_TOP, 1, SHORT_TOP);
        small(0, SHORT_TOP, SHORT_TOP, SHORT_TOP);
        small(0, SHORT_LOW + 2, -1, SHORT_LOW + 1);
        small(0, SHORT_LOW + 1, -1, SHORT_LOW);
        small(0, SHORT_LOW, -1, SHORT_LOW);
        small(0, SHORT_LOW, SHORT_LOW, SHORT_LOW);
        small(1, -2, SHORT_LOW, SHORT_TOP - 1);
        small(1, -1, SHORT_LOW, SHORT_TOP);
        small(1, 0, SHORT_LOW, SHORT_TOP);
        small(1, SHORT_TOP, SHORT_LOW, SHORT_TOP);
        small(1, 0, SHORT_TOP, SHORT_LOW + 1);
        small(1, -1, SHORT_TOP, SHORT_LOW);
        small(1, -2, SHORT_TOP, SHORT_LOW);
        small(1, SHORT_LOW, SHORT_TOP, SHORT_LOW);
    }

    private static void shortProducts() {
        CHECK.sentence("small: SHORT numbers, likewise: SAT of 2, ROUNDED by 15");
        small(2, SHORT_LOW, SHORT_LOW + 2, SHORT_TOP - 1);
        small(2, SHORT_LOW, SHORT_LOW + 1, SHORT_TOP);
        small(2, SHORT_LOW, SHORT_LOW, SHORT_TOP);
        small(2, SHORT_TOP, SHORT_TOP, SHORT_TOP - 1);
        small(2, SHORT_LOW, SHORT_TOP, SHORT_LOW + 1);
        small(2, SHORT_TOP, SHORT_LOW, SHORT_LOW + 1);
    }

    private static void shortMoves() {
        CHECK.sentence("small: SHORT numbers, likewise: SAT of 3");
        small(3, 16383, 1, SHORT_TOP - 1);
        small(3, 16384, 1, SHORT_TOP);
        small(3, -16383, 1, SHORT_LOW + 2);
        small(3, -16384, 1, SHORT_LOW);
        small(3, -16385, 1, SHORT_LOW);
        small(3, 1, 14, 16384);
        small(3, 0, 15, 0);
        small(3, 1, 15, SHORT_TOP);
        small(3, -1, 15, SHORT_LOW);
        small(3, -2, 15, SHORT_LOW);
        small(3, SHORT_TOP, 15, SHORT_TOP);
        small(3, SHORT_LOW, 15, SHORT_LOW);
    }

    private static void shortSigns() {
        CHECK.sentence("small: SHORT numbers, likewise: SAT of 4, 5");
        small(4, SHORT_LOW + 2, 0, SHORT_TOP - 1);
        small(4, SHORT_LOW + 1, 0, SHORT_TOP);
        small(4, SHORT_LOW, 0, SHORT_TOP);
        small(4, SHORT_TOP, 0, SHORT_LOW + 1);
        small(4, 0, 0, 0);
        small(5, SHORT_LOW + 2, 0, SHORT_TOP - 1);
        small(5, SHORT_LOW + 1, 0, SHORT_TOP);
        small(5, SHORT_LOW, 0, SHORT_TOP);
        small(5, SHORT_TOP, 0, SHORT_TOP);
        small(5, -1, 0, 1);
        small(5, 0, 0, 0);
    }

    private static void shortRounding() {
        CHECK.sentence("small: 2 ROUNDED by 15, 3 down: ROUNDED");
        for (int k = 1; k <= 15; k++) {
            int half = 1 << (k - 1);
            small(3, half - 1, -k, 0);
            small(3, half, -k, 1);
            small(3, -half, -k, 0);
            small(3, -half - 1, -k, -1);
        }
        small(3, SHORT_TOP, -1, 16384);
        small(3, SHORT_TOP, -15, 1);
        small(3, SHORT_LOW, -1, -16384);
        small(3, SHORT_LOW, -15, -1);
        small(2, 16383, 1, 0);
        small(2, 16384, 1, 1);
        small(2, -16384, 1, 0);
        small(2, -16385, 1, -1);
    }

    private static void shortMoveBounds() {
        CHECK.sentence("small: 3 with b -15 .. 15");
        small(3, 3, 15, SHORT_TOP);
        small(3, 3, -15, 0);
        for (int b : new int[] {16, 17, 31, 32, TOP, -16, -17, -31, -32, LOW}) {
            noSmall(3, 3, b);
            noSmall(3, 0, b);
        }
        small(0, 1, 16, 17);
        small(1, 1, -16, 17);
        small(2, 16384, 16, 8);
        small(4, 7, 16, -7);
        small(5, -7, -16, 7);
    }

    private static void shortWays() {
        CHECK.sentence("small: likewise: another way");
        small(0, 40, 2, 42);
        small(5, -40, 2, 40);
        for (int way : new int[] {-1, -2, 6, 7, LOW, TOP}) {
            noSmall(way, 40, 2);
        }
    }

    private static void narrowRounding() {
        CHECK.sentence("narrow: A LONG number ROUNDED by 16");
        narrow(0, 0);
        narrow(32767, 0);
        narrow(32768, 1);
        narrow(98303, 1);
        narrow(98304, 2);
        narrow(-32768, 0);
        narrow(-32769, -1);
        narrow(-98304, -1);
        narrow(-98305, -2);
    }

    private static void narrowBounds() {
        CHECK.sentence("narrow: SAT as SHORT");
        // 32766 and a half is the first that becomes 32767, and 32767 and a half the first beyond it.
        int highHalf = 32766 * 65536 + 32768;
        narrow(highHalf - 1, 32766);
        narrow(highHalf, 32767);
        narrow(highHalf + 65535, 32767);
        narrow(highHalf + 65536, 32767);
        narrow(TOP, 32767);
        int lowHalf = -32767 * 65536 - 32768;
        narrow(lowHalf, -32767);
        narrow(lowHalf - 1, -32768);
        narrow(LOW + 1, -32768);
        narrow(LOW, -32768);
    }
}
