import java.util.LinkedHashMap;
import java.util.Map;

/**
 * What one call leaves behind is what the next one begins with, whatever is called between that has no part in it:
 * TAPS and PAST inputs; COEFFICIENTS, inputs and answers of before; PLACES and the EXPONENT.
 */
public final class ApartTest {
    private static final int BIG = 1 << 29;
    private static final Check CHECK = new Check();

    interface Call {
        void on(FixedSignals signals);
    }

    public static void main(String[] args) {
        Map<String, Call> between = withNoPart();
        between.putAll(refused());
        for (Map.Entry<String, Call> call : between.entrySet()) {
            tapFilter(call.getKey(), call.getValue());
            stages(call.getKey(), call.getValue());
            block(call.getKey(), call.getValue());
        }
        useOfTapFilter().forEach((name, call) -> {
            stages(name, call);
            block(name, call);
        });
        useOfStages().forEach((name, call) -> {
            tapFilter(name, call);
            block(name, call);
        });
        useOfBlock().forEach((name, call) -> {
            tapFilter(name, call);
            stages(name, call);
        });
        block("calm", s -> s.calm());
        twoObjects();
        CHECK.end();
    }

    private static Map<String, Call> withNoPart() {
        Map<String, Call> calls = new LinkedHashMap<>();
        calls.put("nothing", s -> { });
        for (int way = 0; way < 6; way++) {
            int asked = way;
            calls.put("work " + way, s -> s.work(asked, Integer.MIN_VALUE, 9));
            calls.put("small " + way, s -> s.small(asked, -32768, 9));
        }
        calls.put("narrow", s -> s.narrow(Integer.MAX_VALUE));
        calls.put("get", s -> s.get(0, true));
        calls.put("get of the last", s -> s.get(31, false));
        calls.put("wave", s -> s.wave(Integer.MIN_VALUE, true));
        calls.put("angle", s -> s.angle(-BIG, BIG));
        calls.put("length", s -> s.length(BIG, -BIG));
        return calls;
    }

    private static Map<String, Call> useOfTapFilter() {
        Map<String, Call> calls = new LinkedHashMap<>();
        calls.put("tap", s -> s.tap(1, -32768));
        calls.put("filter", s -> s.filter(32767));
        return calls;
    }

    private static Map<String, Call> useOfStages() {
        Map<String, Call> calls = new LinkedHashMap<>();
        calls.put("stage", s -> s.stage(1, 3, 32767));
        calls.put("chain", s -> s.chain(-32768));
        return calls;
    }

    private static Map<String, Call> useOfBlock() {
        Map<String, Call> calls = new LinkedHashMap<>();
        calls.put("put", s -> s.put(1, Integer.MAX_VALUE, Integer.MIN_VALUE));
        calls.put("transform", s -> s.transform(5, false));
        calls.put("transform back", s -> s.transform(2, true));
        return calls;
    }

    private static Map<String, Call> refused() {
        Map<String, Call> calls = new LinkedHashMap<>();
        calls.put("work refused", s -> s.work(6, 1, 1));
        calls.put("work 3 refused", s -> s.work(3, 1, 32));
        calls.put("small refused", s -> s.small(0, 1, 32768));
        calls.put("tap refused", s -> s.tap(16, 1));
        calls.put("tap's value refused", s -> s.tap(0, 32768));
        calls.put("filter refused", s -> s.filter(-32769));
        calls.put("stage refused", s -> s.stage(4, 0, 1));
        calls.put("stage's number refused", s -> s.stage(0, 5, 1));
        calls.put("stage's value refused", s -> s.stage(0, 0, -32769));
        calls.put("chain refused", s -> s.chain(32768));
        calls.put("put refused", s -> s.put(32, 1, 1));
        calls.put("transform refused", s -> s.transform(6, false));
        calls.put("get refused", s -> s.get(-1, false));
        calls.put("angle refused", s -> s.angle(0, BIG + 1));
        calls.put("length refused", s -> s.length(-BIG - 1, 0));
        Map<String, Call> caught = new LinkedHashMap<>();
        calls.forEach((name, call) -> caught.put(name, s -> CHECK.refuses(name, () -> call.on(s))));
        return caught;
    }

    private static void filter(FixedSignals signals, Call between, int x, int want) {
        between.on(signals);
        CHECK.due("filter(" + x + ")", signals.filter(x), want);
        between.on(signals);
    }

    private static void tapFilter(String name, Call between) {
        CHECK.sentence("TAPS and PAST inputs, between: " + name);
        FixedSignals signals = new FixedSignals();
        signals.tap(0, 16384);
        between.on(signals);
        signals.tap(3, -8192);
        filter(signals, between, 1000, 500);
        filter(signals, between, 2000, 1000);
        filter(signals, between, 3000, 1500);
        filter(signals, between, 4000, 2000 - 250);
        signals.tap(1, 4096);
        filter(signals, between, 0, 500 - 500);
        filter(signals, between, 8, 4 - 750);
        signals.tap(15, 32767);
        filter(signals, between, 0, 1 - 1000);
        for (int i = 0; i < 8; i++) {
            filter(signals, between, 0, i == 1 ? -2 : 0);
        }
        filter(signals, between, 0, 1000);
        filter(signals, between, 0, 2000);
    }

    private static void chain(FixedSignals signals, Call between, int x, int want) {
        between.on(signals);
        CHECK.due("chain(" + x + ")", signals.chain(x), want);
        between.on(signals);
    }

    private static void stages(String name, Call between) {
        CHECK.sentence("COEFFICIENTS, inputs and answers of before, between: " + name);
        FixedSignals signals = new FixedSignals();
        signals.stage(1, 3, -8192);
        between.on(signals);
        signals.stage(2, 1, 16384);
        chain(signals, between, 1000, 1000);
        chain(signals, between, 0, 500 + 1000);
        chain(signals, between, 0, 250 + 500);
        signals.stage(0, 0, -16384);
        chain(signals, between, 200, -75 + 250);
        // Half of -75 is ROUNDED to -37.
        chain(signals, between, 0, -37 - 75);
        signals.stage(3, 4, 16384);
        // Half of -37 is ROUNDED to -18; the last STAGE takes its answer before last away.
        chain(signals, between, 0, -18 - 37 - 175);
        chain(signals, between, 0, -9 - 18 + 112);
    }

    private static void places(FixedSignals signals, Call between, int re0, int im0, int re1, int im1) {
        between.on(signals);
        CHECK.due("get(0, false)", signals.get(0, false), re0);
        CHECK.due("get(0, true)", signals.get(0, true), im0);
        CHECK.due("get(1, false)", signals.get(1, false), re1);
        CHECK.due("get(1, true)", signals.get(1, true), im1);
        CHECK.due("get(31, false)", signals.get(31, false), -5);
        between.on(signals);
    }

    private static void transform(FixedSignals signals, Call between, int m, boolean back, int want) {
        between.on(signals);
        CHECK.due("transform(" + m + ", " + back + ")", signals.transform(m, back), want);
        between.on(signals);
    }

    private static void block(String name, Call between) {
        CHECK.sentence("PLACES and the EXPONENT, between: " + name);
        FixedSignals signals = new FixedSignals();
        signals.put(0, BIG, 8);
        between.on(signals);
        signals.put(1, 0, -4);
        signals.put(31, -5, 0);
        places(signals, between, BIG, 8, 0, -4);
        transform(signals, between, 1, false, 1);
        places(signals, between, BIG / 2, 2, BIG / 2, 6);
        transform(signals, between, 1, true, 1);
        places(signals, between, BIG, 8, 0, -4);
        transform(signals, between, 0, true, 1);
        transform(signals, between, 1, false, 2);
        places(signals, between, BIG / 2, 2, BIG / 2, 6);
        signals.put(1, 0, 0);
        transform(signals, between, 0, false, 0);
        places(signals, between, BIG / 2, 2, 0, 0);
    }

    private static void twoObjects() {
        Call otherIsUsed = s -> {
            FixedSignals other = new FixedSignals();
            useOfTapFilter().values().forEach(call -> call.on(other));
            useOfStages().values().forEach(call -> call.on(other));
            useOfBlock().values().forEach(call -> call.on(other));
            other.calm();
        };
        tapFilter("use of another object", otherIsUsed);
        stages("use of another object", otherIsUsed);
        block("use of another object", otherIsUsed);
    }
}
