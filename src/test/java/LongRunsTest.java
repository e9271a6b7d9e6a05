import java.util.Random;

/** All promises at once: runs of 512 calls on one object, wrong calls among them, against the model. */
public final class LongRunsTest {
    private static final int CALLS = 512;
    private static final long REFUSED = Long.MAX_VALUE;
    private static final int[] EDGES = {
        Integer.MIN_VALUE, Integer.MAX_VALUE, 0, 1, -1, 32767, 32768, -32768, -32769, 1 << 29, -(1 << 29),
        (1 << 29) + 1, -(1 << 29) - 1, (1 << 29) - 1, 1 << 30, -(1 << 30), 16384, 8192
    };

    /** The methods in the order of the face. */
    enum Kind {
        WORK, SMALL, NARROW, TAP, FILTER, STAGE, CHAIN, CALM, PUT, TRANSFORM, GET, WAVE, ANGLE, LENGTH
    }

    interface Answer {
        long ask();
    }

    private final Check check = new Check();
    private final Random numbers = new Random(512);
    private FixedSignals signals;
    private Model model;

    public static void main(String[] args) {
        LongRunsTest test = new LongRunsTest();
        for (int run = 0; run < 150; run++) {
            test.mixedRun(run);
            test.runInTurn(run);
            test.tapFilterRun(run);
            test.stagesRun(run);
            test.blockRun(run);
        }
        test.check.end();
    }

    private void begin() {
        signals = new FixedSignals();
        model = new Model();
    }

    private void mixedRun(int run) {
        begin();
        for (int call = 1; call <= CALLS; call++) {
            check.sentence("mixed run " + run + ", call " + call);
            Kind kind = anyOf(Kind.values());
            oneCall(kind == Kind.CALM && !oneIn(5) ? Kind.FILTER : kind);
        }
    }

    private void runInTurn(int run) {
        begin();
        Kind[] kinds = Kind.values();
        for (int call = 1; call <= CALLS; call++) {
            check.sentence("run " + run + " of all methods in turn, call " + call);
            Kind kind = kinds[(call + run) % kinds.length];
            int round = call / kinds.length;
            // To be calm in each round would leave nothing of before to be looked at.
            oneCall(kind == Kind.CALM && round % 8 != 7 ? Kind.CHAIN : kind);
        }
    }

    private void tapFilterRun(int run) {
        begin();
        for (int call = 1; call <= CALLS; call++) {
            check.sentence("run " + run + " of the TAP FILTER, call " + call);
            boolean isTold = call <= 16 || oneIn(4);
            oneCall(isTold ? Kind.TAP : oneIn(60) ? Kind.CALM : Kind.FILTER);
        }
    }

    private void stagesRun(int run) {
        begin();
        for (int call = 1; call <= CALLS; call++) {
            check.sentence("run " + run + " of the STAGES, call " + call);
            boolean isTold = call <= 20 || oneIn(4);
            oneCall(isTold ? Kind.STAGE : oneIn(60) ? Kind.CALM : Kind.CHAIN);
        }
    }

    /** The block is filled, then used, and looked at as a whole behind the last of it. */
    private void blockRun(int run) {
        begin();
        for (int call = 1; call <= CALLS; call++) {
            check.sentence("run " + run + " of THE BLOCK, call " + call);
            if (call <= 32) {
                putAndModel(call - 1, numbers.nextInt() >> run % 30, numbers.nextInt() >> run % 30);
            } else if (call > CALLS - 64) {
                getAndModel((CALLS - call) / 2, call % 2 == 0);
            } else {
                oneCall(oneIn(4) ? Kind.TRANSFORM : oneIn(6) ? Kind.PUT : Kind.GET);
            }
        }
    }

    private boolean oneIn(int count) {
        return numbers.nextInt(count) == 0;
    }

    private Kind anyOf(Kind[] kinds) {
        return kinds[numbers.nextInt(kinds.length)];
    }

    private static long answer(Answer asked) {
        try {
            return asked.ask();
        } catch (IllegalArgumentException e) {
            return REFUSED;
        }
    }

    private int index(int count) {
        return oneIn(20) ? numbers.nextInt(3 * count) - count : numbers.nextInt(count);
    }

    private int any() {
        return oneIn(4) ? EDGES[numbers.nextInt(EDGES.length)] : numbers.nextInt() >> numbers.nextInt(32);
    }

    private int shortOne() {
        return oneIn(20) ? any() : (short) any();
    }

    private int coordinate() {
        return oneIn(20) ? any() : any() >> 2;
    }

    private void same(String call, Answer got, Answer want) {
        check.due(call, answer(got), answer(want));
    }

    private void oneCall(Kind kind) {
        switch (kind) {
            case WORK, SMALL, NARROW -> numberCall(kind);
            case TAP, FILTER, STAGE, CHAIN, CALM -> filterCall(kind);
            case PUT -> putAndModel(index(32), any(), any());
            case TRANSFORM -> transformAndModel(index(6), numbers.nextBoolean());
            case GET -> getAndModel(index(32), numbers.nextBoolean());
            default -> angleCall(kind);
        }
    }

    private void numberCall(Kind kind) {
        int way = index(6);
        boolean isLong = kind == Kind.WORK;
        int a = isLong ? any() : shortOne();
        int b = way == 3 ? numbers.nextInt(isLong ? 66 : 34) - (isLong ? 33 : 17) : isLong ? any() : shortOne();
        if (isLong) {
            same("work(" + way + ", " + a + ", " + b + ")", () -> signals.work(way, a, b), () -> model.work(way, a, b));
        } else if (kind == Kind.SMALL) {
            same("small(" + way + ", " + a + ", " + b + ")", () -> signals.small(way, a, b), () -> model.small(way, a, b));
        } else {
            int number = any();
            same("narrow(" + number + ")", () -> signals.narrow(number), () -> model.narrow(number));
        }
    }

    private void filterCall(Kind kind) {
        int k = index(kind == Kind.TAP ? 16 : 5);
        int stage = index(4);
        int value = shortOne();
        switch (kind) {
            case TAP -> same("tap(" + k + ", " + value + ")",
                () -> { signals.tap(k, value); return 0; }, () -> { model.tap(k, value); return 0; });
            case STAGE -> same("stage(" + stage + ", " + k + ", " + value + ")",
                () -> { signals.stage(stage, k, value); return 0; }, () -> { model.stage(stage, k, value); return 0; });
            case FILTER -> same("filter(" + value + ")", () -> signals.filter(value), () -> model.filter(value));
            case CHAIN -> same("chain(" + value + ")", () -> signals.chain(value), () -> model.chain(value));
            default -> same("calm()", () -> { signals.calm(); return 0; }, () -> { model.calm(); return 0; });
        }
    }

    private void putAndModel(int place, int re, int im) {
        same("put(" + place + ", " + re + ", " + im + ")",
            () -> { signals.put(place, re, im); return 0; }, () -> { model.put(place, re, im); return 0; });
    }

    private void transformAndModel(int m, boolean back) {
        same("transform(" + m + ", " + back + ")", () -> signals.transform(m, back), () -> model.transform(m, back));
    }

    private void getAndModel(int place, boolean second) {
        same("get(" + place + ", " + second + ")", () -> signals.get(place, second), () -> model.get(place, second));
    }

    private void angleCall(Kind kind) {
        int angle = any();
        boolean cosine = numbers.nextBoolean();
        int x = coordinate();
        int y = coordinate();
        switch (kind) {
            case WAVE -> same("wave(" + angle + ", " + cosine + ")",
                () -> signals.wave(angle, cosine), () -> model.wave(angle, cosine));
            case ANGLE -> same("angle(" + x + ", " + y + ")", () -> signals.angle(x, y), () -> model.angle(x, y));
            default -> same("length(" + x + ", " + y + ")", () -> signals.length(x, y), () -> model.length(x, y));
        }
    }
}
