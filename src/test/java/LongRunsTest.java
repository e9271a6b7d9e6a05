import java.util.Random;

/** All promises at once: runs of 512 calls, wrong ones among them, against the model. */
public final class LongRunsTest {
    private static final long REFUSED = Long.MAX_VALUE;
    private static final int[] EDGES = {
        Integer.MIN_VALUE, Integer.MAX_VALUE, 0, 1, -1, 32767, 32768, -32768, -32769, 1 << 29, -(1 << 29),
        (1 << 29) + 1, -(1 << 29) - 1, (1 << 29) - 1, 1 << 30, -(1 << 30), 16384, 8192
    };

    interface Answer {
        long ask();
    }

    private final Check check = new Check();
    private final Random numbers = new Random(512);
    private FixedSignals signals;
    private Model model;

    public static void main(String[] args) {
        LongRunsTest test = new LongRunsTest();
        for (int run = 0; run < 400; run++) {
            test.signals = new FixedSignals();
            test.model = new Model();
            for (int i = 0; i < 512; i++) {
                test.oneCall(test.numbers.nextInt(15));
            }
        }
        test.check.end();
    }

    private static long answer(Answer asked) {
        try {
            return asked.ask();
        } catch (IllegalArgumentException e) {
            return REFUSED;
        }
    }

    private int index(int count) {
        return numbers.nextInt(20) == 0 ? numbers.nextInt(3 * count) - count : numbers.nextInt(count);
    }

    private int any() {
        return numbers.nextInt(4) == 0 ? EDGES[numbers.nextInt(EDGES.length)] : numbers.nextInt() >> numbers.nextInt(32);
    }

    private int shortOne() {
        return numbers.nextInt(20) == 0 ? any() : (short) any();
    }

    private int coordinate() {
        return numbers.nextInt(20) == 0 ? any() : any() >> 2;
    }

    private void same(String call, Answer got, Answer want) {
        check.due(call, answer(got), answer(want));
    }

    private void oneCall(int kind) {
        if (kind < 5) {
            numberCall(kind);
        } else if (kind < 9) {
            filterCall(kind);
        } else {
            blockOrAngleCall(kind);
        }
    }

    private void numberCall(int kind) {
        int way = index(6);
        int a = kind < 2 ? any() : shortOne();
        int b = way == 3 ? index(40) - 20 : kind < 2 ? any() : shortOne();
        if (kind < 2) {
            same("work(" + way + ", " + a + ", " + b + ")", () -> signals.work(way, a, b), () -> model.work(way, a, b));
        } else if (kind < 4) {
            same("small(" + way + ", " + a + ", " + b + ")", () -> signals.small(way, a, b), () -> model.small(way, a, b));
        } else {
            int number = any();
            same("narrow(" + number + ")", () -> signals.narrow(number), () -> model.narrow(number));
        }
    }

    private void filterCall(int kind) {
        int k = index(kind == 5 ? 16 : 5);
        int stage = index(4);
        int value = shortOne();
        if (kind == 5) {
            same("tap(" + k + ", " + value + ")",
                () -> { signals.tap(k, value); return 0; }, () -> { model.tap(k, value); return 0; });
        } else if (kind == 6) {
            same("stage(" + stage + ", " + k + ", " + value + ")",
                () -> { signals.stage(stage, k, value); return 0; }, () -> { model.stage(stage, k, value); return 0; });
        } else if (kind == 7 && numbers.nextInt(15) == 0) {
            signals.calm();
            model.calm();
        } else if (kind == 7) {
            same("filter(" + value + ")", () -> signals.filter(value), () -> model.filter(value));
        } else {
            same("chain(" + value + ")", () -> signals.chain(value), () -> model.chain(value));
        }
    }

    private void blockOrAngleCall(int kind) {
        int place = index(32);
        int a = any();
        int b = any();
        int m = index(6);
        boolean flag = numbers.nextBoolean();
        int x = coordinate();
        int y = coordinate();
        if (kind == 9) {
            same("put(" + place + ", " + a + ", " + b + ")",
                () -> { signals.put(place, a, b); return 0; }, () -> { model.put(place, a, b); return 0; });
        } else if (kind == 10) {
            same("transform(" + m + ", " + flag + ")", () -> signals.transform(m, flag), () -> model.transform(m, flag));
        } else if (kind == 11) {
            same("get(" + place + ", " + flag + ")", () -> signals.get(place, flag), () -> model.get(place, flag));
        } else if (kind == 12) {
            same("wave(" + a + ", " + flag + ")", () -> signals.wave(a, flag), () -> model.wave(a, flag));
        } else if (kind == 13) {
            same("angle(" + x + ", " + y + ")", () -> signals.angle(x, y), () -> model.angle(x, y));
        } else {
            same("length(" + x + ", " + y + ")", () -> signals.length(x, y), () -> model.length(x, y));
        }
    }
}
