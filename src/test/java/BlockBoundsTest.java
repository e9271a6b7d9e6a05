/** Each sentence that names a bound of THE BLOCK: promises 1 and 10 to 12. */
public final class BlockBoundsTest {
    private static final int LOW = Integer.MIN_VALUE;
    private static final int TOP = Integer.MAX_VALUE;
    private static final int BIG = 1 << 29;
    private static final Check CHECK = new Check();

    public static void main(String[] args) {
        blockAtFirst();
        firstAndLastPlace();
        placesAreLong();
        putSetsTheExponentBack();
        leastAndMostBits();
        noSuchBits();
        onePlaceIsLeftAlone();
        orderOfPlaces();
        firstTooBig();
        anyOfTheNumbersCounts();
        onlyTheseNumbersCount();
        allOfTheseAreRounded();
        onceMore();
        againOnceOnly();
        beforeEveryStep();
        notBehindTheLastStep();
        exponentBeginsWithWhatItWas();
        wavesAtTheirBounds();
        partsAreRounded();
        CHECK.end();
    }

    private static void transform(FixedSignals signals, int m, boolean back, int exponent) {
        CHECK.due("transform(" + m + ", " + back + ")", signals.transform(m, back), exponent);
    }

    private static void place(FixedSignals signals, int place, int re, int im) {
        CHECK.due("get(" + place + ", false)", signals.get(place, false), re);
        CHECK.due("get(" + place + ", true)", signals.get(place, true), im);
    }

    private static FixedSignals with(int place, int re, int im) {
        FixedSignals signals = new FixedSignals();
        signals.put(place, re, im);
        return signals;
    }

    private static void blockAtFirst() {
        CHECK.sentence("THE BLOCK is 0, the EXPONENT too");
        FixedSignals signals = new FixedSignals();
        for (int p = 0; p < 32; p++) {
            place(signals, p, 0, 0);
        }
        transform(signals, 0, false, 0);
        for (int m = 0; m <= 5; m++) {
            transform(new FixedSignals(), m, false, 0);
            transform(new FixedSignals(), m, true, 0);
        }
    }

    private static void firstAndLastPlace() {
        CHECK.sentence("THE BLOCK has 32 PLACES. IllegalArgument: no PLACE");
        FixedSignals signals = with(0, 1, 2);
        signals.put(31, 3, 4);
        place(signals, 0, 1, 2);
        place(signals, 31, 3, 4);
        for (int p = 1; p < 31; p++) {
            place(signals, p, 0, 0);
        }
        for (int p : new int[] {-1, -32, 32, 33, 64, LOW, TOP}) {
            CHECK.refuses("put(" + p + ", 5, 6)", () -> signals.put(p, 5, 6));
            CHECK.refuses("get(" + p + ", false)", () -> signals.get(p, false));
            CHECK.refuses("get(" + p + ", true)", () -> signals.get(p, true));
        }
    }

    private static void placesAreLong() {
        CHECK.sentence("PLACES of two LONG numbers; get: A PLACE's first, or second number");
        for (int p = 0; p < 32; p += 31) {
            place(with(p, LOW, TOP), p, LOW, TOP);
            place(with(p, TOP, LOW), p, TOP, LOW);
        }
    }

    private static void putSetsTheExponentBack() {
        CHECK.sentence("put: the EXPONENT is 0");
        for (int p = 0; p < 32; p += 31) {
            FixedSignals signals = with(0, 2 * BIG, 0);
            transform(signals, 1, false, 2);
            signals.get(p, false);
            transform(signals, 0, false, 2);
            signals.put(p, 7, 8);
            transform(signals, 0, false, 0);
            place(signals, 1, BIG / 2, 0);
        }
        CHECK.sentence("What throws changes nothing: the EXPONENT stays where put is refused");
        FixedSignals refused = with(0, BIG, 0);
        transform(refused, 1, false, 1);
        CHECK.refuses("put(32, 1, 1)", () -> refused.put(32, 1, 1));
        CHECK.refuses("put(-1, 1, 1)", () -> refused.put(-1, 1, 1));
        transform(refused, 0, false, 1);
    }

    private static void leastAndMostBits() {
        CHECK.sentence("first n = 2^m PLACES, m = 0 .. 5");
        for (int m = 0; m <= 5; m++) {
            FixedSignals signals = new FixedSignals();
            for (int p = 0; p < 32; p++) {
                signals.put(p, 3, -1);
            }
            transform(signals, m, m % 2 == 0, 0);
            int n = 1 << m;
            place(signals, 0, 3 * n, -n);
            for (int p = 1; p < 32; p++) {
                place(signals, p, p < n ? 0 : 3, p < n ? 0 : -1);
            }
        }
    }

    private static void noSuchBits() {
        CHECK.sentence("IllegalArgument: m is not 0 .. 5");
        FixedSignals signals = with(0, BIG, 5);
        signals.put(31, BIG, 6);
        for (int m : new int[] {-1, -2, 6, 7, 31, 32, 33, LOW, TOP}) {
            CHECK.refuses("transform(" + m + ", false)", () -> signals.transform(m, false));
            CHECK.refuses("transform(" + m + ", true)", () -> signals.transform(m, true));
        }
        place(signals, 0, BIG, 5);
        place(signals, 31, BIG, 6);
        transform(signals, 0, false, 0);
    }

    private static void onePlaceIsLeftAlone() {
        CHECK.sentence("for half = 1, 2, 4, .. n / 2: there is none for n = 1");
        for (int re : new int[] {LOW, TOP, BIG, -BIG, 1}) {
            FixedSignals signals = with(0, re, re);
            transform(signals, 0, false, 0);
            transform(signals, 0, true, 0);
            place(signals, 0, re, re);
        }
    }

    private static void orderOfPlaces() {
        CHECK.sentence("PLACES are put in the order of their numbers' m bits turned round");
        // A wave of one length stands in one place of the answer, and only there, if the order is right.
        for (int m = 1; m <= 5; m++) {
            int n = 1 << m;
            FixedSignals signals = new FixedSignals();
            for (int p = 0; p < n; p++) {
                signals.put(p, p % 2 == 0 ? 1000 : -1000, 0);
            }
            transform(signals, m, false, 0);
            for (int p = 0; p < n; p++) {
                place(signals, p, p == n / 2 ? 1000 * n : 0, 0);
            }
        }
        FixedSignals four = with(0, 1, 10);
        four.put(1, 200, 2000);
        four.put(2, 3, 30);
        four.put(3, 400, 4000);
        transform(four, 2, false, 0);
        place(four, 0, 604, 6040);
        place(four, 1, 1 - 3 + (2000 - 4000), 10 - 30 - (200 - 400));
        place(four, 2, 4 - 600, 40 - 6000);
        place(four, 3, 1 - 3 - (2000 - 4000), 10 - 30 + (200 - 400));
    }

    private static void firstTooBig() {
        CHECK.sentence("if one of the 2 n numbers is 2^29 or more in size, all are ROUNDED by 1, the EXPONENT is one more");
        for (int sign = -1; sign <= 1; sign += 2) {
            FixedSignals last = with(0, sign * (BIG - 1), 1);
            transform(last, 1, false, 0);
            place(last, 0, sign * (BIG - 1), 1);
            place(last, 1, sign * (BIG - 1), 1);
            FixedSignals first = with(0, sign * BIG, 1);
            transform(first, 1, false, 1);
            place(first, 0, sign * BIG / 2, 1);
            place(first, 1, sign * BIG / 2, 1);
        }
        FixedSignals next = with(0, BIG + 1, 0);
        transform(next, 1, false, 1);
        place(next, 0, BIG / 2 + 1, 0);
        FixedSignals nextBelow = with(0, -BIG - 1, 0);
        transform(nextBelow, 1, false, 1);
        place(nextBelow, 0, -BIG / 2, 0);
    }

    private static void anyOfTheNumbersCounts() {
        CHECK.sentence("if one of the 2 n numbers is 2^29 or more in size: whichever it is");
        for (int m = 1; m <= 5; m++) {
            for (int p = 0; p < 1 << m; p++) {
                for (int sign = -1; sign <= 1; sign += 2) {
                    transform(with(p, sign * BIG, 0), m, false, 1);
                    transform(with(p, 0, sign * BIG), m, true, 1);
                    transform(with(p, sign * (BIG - 1), 0), m, true, 0);
                    transform(with(p, 0, sign * (BIG - 1)), m, false, 0);
                }
            }
        }
    }

    private static void onlyTheseNumbersCount() {
        CHECK.sentence("one of the 2 n numbers: PLACE n is none of them");
        for (int m = 0; m < 5; m++) {
            FixedSignals signals = with(1 << m, TOP, LOW);
            signals.put(0, 5, 5);
            transform(signals, m, false, 0);
            place(signals, 0, 5, 5);
            place(signals, 1 << m, TOP, LOW);
        }
    }

    private static void allOfTheseAreRounded() {
        CHECK.sentence("all of these are ROUNDED by 1");
        FixedSignals signals = with(0, BIG, 3);
        signals.put(1, -3, -1);
        signals.put(2, 3, -3);
        signals.put(31, -3, 3);
        transform(signals, 1, false, 1);
        place(signals, 0, BIG / 2 - 1, 2);
        place(signals, 1, BIG / 2 + 1, 2);
        place(signals, 2, 3, -3);
        place(signals, 31, -3, 3);
    }

    private static void onceMore() {
        CHECK.sentence("then again, if that is so still");
        FixedSignals lastOnce = with(0, 2 * BIG - 2, 3);
        transform(lastOnce, 1, false, 1);
        place(lastOnce, 0, BIG - 1, 2);
        // 2^30 - 1 ROUNDED is 2^29; 3 becomes 2, and then 1.
        FixedSignals firstTwice = with(0, 2 * BIG - 1, 3);
        transform(firstTwice, 1, false, 2);
        place(firstTwice, 0, BIG / 2, 1);
        // - (2^30 - 1) ROUNDED is - (2^29 - 1).
        FixedSignals lastOnceBelow = with(0, -2 * BIG + 1, -3);
        transform(lastOnceBelow, 1, false, 1);
        place(lastOnceBelow, 0, -BIG + 1, -1);
        FixedSignals firstTwiceBelow = with(0, -2 * BIG, -3);
        transform(firstTwiceBelow, 1, false, 2);
        place(firstTwiceBelow, 0, -BIG / 2, 0);
        CHECK.sentence("then again, if that is so still: each time as a whole number, not by 2 at once");
        FixedSignals steps = with(0, 2 * BIG, 5);
        transform(steps, 1, false, 2);
        place(steps, 0, BIG / 2, 2);
    }

    private static void againOnceOnly() {
        CHECK.sentence("then again: 2 times in all, so that 2^31 in size is left as 2^29");
        FixedSignals low = with(0, LOW, 0);
        transform(low, 1, false, 2);
        place(low, 0, -BIG, 0);
        place(low, 1, -BIG, 0);
        FixedSignals lowSecond = with(1, 0, LOW);
        transform(lowSecond, 1, false, 2);
        place(lowSecond, 0, 0, -BIG);
        place(lowSecond, 1, 0, BIG);
        FixedSignals top = with(1, 0, TOP);
        transform(top, 1, true, 2);
        place(top, 0, 0, BIG);
        place(top, 1, 0, -BIG);
        CHECK.sentence("the largest sums: 2^30 and no SAT");
        FixedSignals sums = with(0, LOW, TOP);
        sums.put(1, LOW, TOP);
        transform(sums, 1, false, 2);
        place(sums, 0, -2 * BIG, 2 * BIG);
        place(sums, 1, 0, 0);
        CHECK.sentence("Everything between is reckoned without bounds: the largest LONG number ROUNDED by 1");
        FixedSignals both = with(0, TOP, TOP);
        both.put(1, LOW, TOP);
        transform(both, 1, false, 2);
        place(both, 0, 0, 2 * BIG);
        place(both, 1, 2 * BIG, 0);
    }

    private static void beforeEveryStep() {
        CHECK.sentence("for half = 1, 2, 4, .. n / 2: if one of the 2 n numbers is 2^29 or more in size, ..");
        for (int m = 1; m <= 5; m++) {
            // With 2^(28 - late) in all places, 2^29 is met first before step number late + 2.
            for (int late = 0; late < 5; late++) {
                FixedSignals signals = new FixedSignals();
                for (int p = 0; p < 1 << m; p++) {
                    signals.put(p, 1 << (28 - late), 0);
                }
                int times = Math.max(0, m - 1 - late);
                transform(signals, m, false, times);
                place(signals, 0, 1 << (28 - late + m - times), 0);
            }
        }
    }

    private static void notBehindTheLastStep() {
        CHECK.sentence("for half = .. n / 2: behind the last one nothing is made smaller");
        FixedSignals signals = with(0, BIG - 1, -BIG + 1);
        signals.put(1, BIG - 1, -BIG + 1);
        transform(signals, 1, false, 0);
        place(signals, 0, 2 * BIG - 2, -2 * BIG + 2);
        place(signals, 1, 0, 0);
        transform(signals, 0, false, 0);
        place(signals, 0, 2 * BIG - 2, -2 * BIG + 2);
        transform(signals, 1, false, 1);
        place(signals, 0, BIG - 1, -BIG + 1);
    }

    private static void exponentBeginsWithWhatItWas() {
        CHECK.sentence("The EXPONENT begins with what it was: it then");
        FixedSignals signals = with(0, BIG, 0);
        transform(signals, 1, false, 1);
        transform(signals, 1, false, 1);
        transform(signals, 0, true, 1);
        place(signals, 0, BIG, 0);
        transform(signals, 1, true, 2);
        transform(signals, 1, true, 2);
        transform(signals, 1, false, 3);
        signals.put(0, TOP, 0);
        transform(signals, 1, false, 2);
    }

    private static void wavesAtTheirBounds() {
        CHECK.sentence("WAVE k, 0 .. 15: c is C(8 - k) for k up to 8, else - C(k - 8); "
            + "s is C(k) for k up to 8, else C(16 - k)");
        int[] c = {536870911, 526555087, 496004046, 446391848, 379625062, 298269497, 205451603, 104738319, 0};
        for (int sign = -1; sign <= 1; sign += 2) {
            FixedSignals re = with(1, BIG - 1, 0);
            FixedSignals im = with(1, 0, BIG - 1);
            transform(re, 5, sign > 0, 0);
            transform(im, 5, sign > 0, 0);
            for (int k = 0; k < 16; k++) {
                int cosine = k <= 8 ? c[k] : -c[16 - k];
                int sine = k <= 8 ? c[8 - k] : c[k - 8];
                place(re, k, cosine, sign * sine);
                place(re, k + 16, -cosine, -sign * sine);
                place(im, k, -sign * sine, cosine);
                place(im, k + 16, sign * sine, -cosine);
            }
        }
    }

    private static void partsAreRounded() {
        CHECK.sentence("u = (re c + im s) ROUNDED by 31, v = (im c - re s) ROUNDED by 31");
        // C(7) is 64 times 32909693, so that 2^24 C(7) is 16454846 and a half; WAVES 1 and 7 have it as c and as s.
        int half = 1 << 24;
        FixedSignals up = with(1, half, 0);
        transform(up, 5, false, 0);
        CHECK.due("u of a half more", up.get(1, false), 16454847);
        CHECK.due("p less u", up.get(17, false), -16454847);
        CHECK.due("v of a half less", up.get(7, true), -16454846);
        FixedSignals down = with(1, -half, 0);
        transform(down, 5, false, 0);
        CHECK.due("u of a half less", down.get(1, false), -16454846);
        CHECK.due("p less u", down.get(17, false), 16454846);
        CHECK.due("v of a half more", down.get(7, true), 16454847);
        CHECK.sentence("for the way back u = re c - im s, v = im c + re s");
        FixedSignals back = with(1, 0, half);
        transform(back, 5, true, 0);
        CHECK.due("v of a half more", back.get(1, true), 16454847);
        CHECK.due("p less v", back.get(17, true), -16454847);
        CHECK.due("u of a half less", back.get(7, false), -16454846);
        CHECK.sentence("(re c + im s) ROUNDED: the sum, not what it is of");
        // c and s of WAVE 4 are 0.71 both: 1.41 becomes 1, where 0.71 twice would become 2.
        FixedSignals first = with(1, 1, 1);
        transform(first, 3, false, 0);
        place(first, 1, 1, 0);
        place(first, 5, -1, 0);
        FixedSignals second = with(1, 1, 1);
        transform(second, 3, true, 0);
        place(second, 1, 0, 1);
        place(second, 5, 0, -1);
    }
}
