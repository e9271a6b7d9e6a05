import java.math.BigInteger;

/** The document's words in numbers without bounds, written apart from the class that it judges. */
final class Model {
    private static final BigInteger TWO = BigInteger.TWO;
    private static final long[] C = {
        0L, 418953276L, 821806413L, 1193077991L, 1518500250L, 1785567396L, 1984016189L, 2106220352L, 2147483647L
    };
    private static final long[] ARC = {
        536870912, 316933406, 167458907, 85004756, 42667331, 21354465, 10679838, 5340245, 2670163, 1335087, 667544,
        333772, 166886, 83443, 41722, 20861, 10430, 5215, 2608, 1304, 652, 326, 163, 81, 41, 20, 10, 5, 3, 1
    };

    private final long[] taps = new long[16];
    private final long[] history = new long[16 + 1024];
    private int inputs = 16;
    private final long[][] coefficients = new long[4][];
    private final long[][] before = new long[4][4];
    private BigInteger[][] block = new BigInteger[32][];
    private int exponent;

    Model() {
        for (int i = 0; i < 4; i++) {
            coefficients[i] = new long[] {16384, 0, 0, 0, 0};
        }
        for (int i = 0; i < 32; i++) {
            block[i] = new BigInteger[] {BigInteger.ZERO, BigInteger.ZERO};
        }
    }

    static BigInteger big(long value) {
        return BigInteger.valueOf(value);
    }

    static BigInteger cut(BigInteger value, BigInteger divisor) {
        BigInteger[] parts = value.divideAndRemainder(divisor);
        return parts[1].signum() < 0 ? parts[0].subtract(BigInteger.ONE) : parts[0];
    }

    static BigInteger rounded(BigInteger value, int k) {
        return k == 0 ? value : cut(value.add(TWO.pow(k - 1)), TWO.pow(k));
    }

    static int sat(BigInteger value, int bits) {
        BigInteger bound = TWO.pow(bits);
        if (value.compareTo(bound) >= 0) {
            return bound.subtract(BigInteger.ONE).intValueExact();
        }
        return value.max(bound.negate()).intValueExact();
    }

    private static void need(boolean isTold) {
        if (!isTold) {
            throw new IllegalArgumentException();
        }
    }

    private static void needShort(int value) {
        need(value == (short) value);
    }

    private static int either(int way, int a, int b, int bits) {
        need(way >= 0 && way <= 5);
        BigInteger x = big(a);
        BigInteger y = big(b);
        if (way == 0) {
            return sat(x.add(y), bits);
        } else if (way == 1) {
            return sat(x.subtract(y), bits);
        } else if (way == 2) {
            return sat(rounded(x.multiply(y), bits), bits);
        } else if (way == 3) {
            need(b >= -bits && b <= bits);
            return sat(b < 0 ? rounded(x, -b) : x.multiply(TWO.pow(b)), bits);
        }
        return sat(way == 4 ? x.negate() : x.abs(), bits);
    }

    int work(int way, int a, int b) {
        return either(way, a, b, 31);
    }

    int small(int way, int a, int b) {
        needShort(a);
        if (way >= 0 && way <= 2) {
            needShort(b);
        }
        return either(way, a, b, 15);
    }

    int narrow(int a) {
        return sat(rounded(big(a), 16), 15);
    }

    void tap(int k, int value) {
        need(k >= 0 && k <= 15);
        needShort(value);
        taps[k] = value;
    }

    int filter(int x) {
        needShort(x);
        history[inputs] = x;
        BigInteger sum = BigInteger.ZERO;
        for (int k = 0; k < 16; k++) {
            sum = sum.add(big(taps[k]).multiply(big(history[inputs - k])));
        }
        inputs++;
        return sat(rounded(sum, 15), 15);
    }

    void stage(int stage, int k, int value) {
        need(stage >= 0 && stage <= 3 && k >= 0 && k <= 4);
        needShort(value);
        coefficients[stage][k] = value;
    }

    int chain(int x) {
        needShort(x);
        int at = x;
        for (int i = 0; i < 4; i++) {
            long[] f = coefficients[i];
            long[] o = before[i];
            long sum = f[0] * at + f[1] * o[0] + f[2] * o[1] - f[3] * o[2] - f[4] * o[3];
            int y = sat(rounded(big(sum), 14), 15);
            before[i] = new long[] {at, o[0], y, o[2]};
            at = y;
        }
        return at;
    }

    void calm() {
        for (int k = 0; k < 16; k++) {
            history[inputs - 1 - k] = 0;
        }
        for (int i = 0; i < 4; i++) {
            before[i] = new long[4];
        }
    }

    void put(int place, int re, int im) {
        need(place >= 0 && place <= 31);
        block[place] = new BigInteger[] {big(re), big(im)};
        exponent = 0;
    }

    int get(int place, boolean second) {
        need(place >= 0 && place <= 31);
        return block[place][second ? 1 : 0].intValueExact();
    }

    int transform(int m, boolean back) {
        need(m >= 0 && m <= 5);
        int n = 1 << m;
        BigInteger[][] old = block.clone();
        for (int p = 0; p < n; p++) {
            StringBuilder digits = new StringBuilder();
            for (int bit = m - 1; bit >= 0; bit--) {
                digits.append(p >> bit & 1);
            }
            block[p] = m == 0 ? old[0] : old[Integer.parseInt(digits.reverse().toString(), 2)];
        }
        for (int half = 1; half <= n / 2; half *= 2) {
            makeSmaller(n);
            makeSmaller(n);
            for (int group = 0; group < n; group += 2 * half) {
                for (int j = 0; j < half; j++) {
                    cross(group + j, group + j + half, j * 16 / half, back);
                }
            }
        }
        return exponent;
    }

    private void makeSmaller(int n) {
        boolean isBig = false;
        for (int p = 0; p < n; p++) {
            for (BigInteger number : block[p]) {
                isBig |= number.abs().compareTo(TWO.pow(29)) >= 0;
            }
        }
        if (isBig) {
            for (int p = 0; p < n; p++) {
                block[p] = new BigInteger[] {rounded(block[p][0], 1), rounded(block[p][1], 1)};
            }
            exponent++;
        }
    }

    private void cross(int p, int q, int k, boolean back) {
        BigInteger c = big(k <= 8 ? C[8 - k] : -C[k - 8]);
        BigInteger s = big(k <= 8 ? C[k] : C[16 - k]);
        BigInteger re = block[q][0];
        BigInteger im = block[q][1];
        BigInteger u = back ? re.multiply(c).subtract(im.multiply(s)) : re.multiply(c).add(im.multiply(s));
        BigInteger v = back ? im.multiply(c).add(re.multiply(s)) : im.multiply(c).subtract(re.multiply(s));
        u = rounded(u, 31);
        v = rounded(v, 31);
        BigInteger[] of = block[p];
        block[p] = new BigInteger[] {big(sat(of[0].add(u), 31)), big(sat(of[1].add(v), 31))};
        block[q] = new BigInteger[] {big(sat(of[0].subtract(u), 31)), big(sat(of[1].subtract(v), 31))};
    }

    int wave(int angle, boolean cosine) {
        BigInteger z = big(angle);
        boolean isTurned = z.abs().compareTo(TWO.pow(30)) > 0;
        if (isTurned) {
            z = angle < 0 ? z.add(TWO.pow(31)) : z.subtract(TWO.pow(31));
        }
        BigInteger x = big(652032874);
        BigInteger y = BigInteger.ZERO;
        for (int i = 0; i < 30; i++) {
            BigInteger dx = cut(y, TWO.pow(i));
            BigInteger dy = cut(x, TWO.pow(i));
            boolean isBelow = z.signum() < 0;
            x = isBelow ? x.add(dx) : x.subtract(dx);
            y = isBelow ? y.subtract(dy) : y.add(dy);
            z = isBelow ? z.add(big(ARC[i])) : z.subtract(big(ARC[i]));
        }
        BigInteger answer = cosine ? x : y;
        return (isTurned ? answer.negate() : answer).intValueExact();
    }

    int angle(int x, int y) {
        BigInteger[] last = laid(x, y);
        return x == 0 && y == 0 ? 0 : last[1].intValue();
    }

    int length(int x, int y) {
        return rounded(laid(x, y)[0].multiply(big(652032874)), 30).intValueExact();
    }

    private static BigInteger[] laid(int startX, int startY) {
        int most = 1 << 29;
        need(startX >= -most && startX <= most && startY >= -most && startY <= most);
        BigInteger x = big(Math.abs(startX));
        BigInteger y = big(startX < 0 ? -startY : startY);
        BigInteger z = startX < 0 ? TWO.pow(31).negate() : BigInteger.ZERO;
        for (int i = 0; i < 30; i++) {
            BigInteger dx = cut(y, TWO.pow(i));
            BigInteger dy = cut(x, TWO.pow(i));
            boolean isBelow = y.signum() < 0;
            x = isBelow ? x.subtract(dx) : x.add(dx);
            y = isBelow ? y.add(dy) : y.subtract(dy);
            z = isBelow ? z.subtract(big(ARC[i])) : z.add(big(ARC[i]));
        }
        return new BigInteger[] {x, z};
    }
}
