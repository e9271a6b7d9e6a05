import java.util.ArrayList;
import java.util.List;

/** "IllegalArgument is thrown where a number is none of those told here. What throws changes nothing." */
public final class RefusalTest {
    private static final int LOW = Integer.MIN_VALUE;
    private static final int TOP = Integer.MAX_VALUE;
    private static final int MOST = 1 << 29;
    private static final int[] NO_SHORTS = {32768, -32769, 65536, TOP, LOW};
    private static final Check CHECK = new Check();

    interface Call {
        void on(FixedSignals signals);
    }

    public static void main(String[] args) {
        CHECK.sentence("IllegalArgument is thrown where a number is none of those told here. What throws changes nothing.");
        List<Long> untouched = seen(used());
        CHECK.holds("an object that was used is not as a new one", !untouched.equals(seen(new FixedSignals())));
        numbers();
        filters();
        blockAndAngles();
        CHECK.end();
    }

    /** An object that has something of everything that a refused call could spoil. */
    private static FixedSignals used() {
        FixedSignals signals = new FixedSignals();
        for (int k = 0; k < 16; k++) {
            signals.tap(k, 700 + 31 * k);
            signals.filter(9000 + 1500 * k);
        }
        for (int stage = 0; stage < 4; stage++) {
            for (int k = 1; k < 5; k++) {
                signals.stage(stage, k, 1000 + 300 * k - 500 * stage);
            }
        }
        for (int i = 0; i < 4; i++) {
            signals.chain(5000 - 900 * i);
        }
        for (int p = 0; p < 32; p++) {
            signals.put(p, 20000000 * p - MOST, 1000003 * p);
        }
        signals.transform(5, false);
        return signals;
    }

    /** All that can be seen of an object; asking it uses the object up. */
    private static List<Long> seen(FixedSignals signals) {
        List<Long> answers = new ArrayList<>();
        for (int p = 0; p < 32; p++) {
            answers.add((long) signals.get(p, false));
            answers.add((long) signals.get(p, true));
        }
        answers.add((long) signals.transform(0, false));
        for (int i = 0; i < 32; i++) {
            answers.add((long) signals.filter(i == 16 ? 32767 : 0));
        }
        for (int i = 0; i < 16; i++) {
            answers.add((long) signals.chain(i == 8 ? 16384 : 0));
        }
        answers.add((long) signals.transform(5, true));
        return answers;
    }

    private static void refused(String name, Call call) {
        FixedSignals signals = used();
        CHECK.refuses(name, () -> call.on(signals));
        CHECK.holds(name + " changes nothing", seen(signals).equals(seen(used())));
    }

    private static void numbers() {
        for (int way : new int[] {-1, 6, LOW, TOP}) {
            refused("work(" + way + ", 1, 1)", s -> s.work(way, 1, 1));
            refused("small(" + way + ", 1, 1)", s -> s.small(way, 1, 1));
        }
        for (int b : new int[] {32, -32, TOP, LOW}) {
            refused("work(3, 1, " + b + ")", s -> s.work(3, 1, b));
        }
        for (int b : new int[] {16, -16, TOP, LOW}) {
            refused("small(3, 1, " + b + ")", s -> s.small(3, 1, b));
        }
        for (int number : NO_SHORTS) {
            for (int way = 0; way < 6; way++) {
                int asked = way;
                refused("small(" + way + ", " + number + ", 1)", s -> s.small(asked, number, 1));
                if (way < 3) {
                    refused("small(" + way + ", 1, " + number + ")", s -> s.small(asked, 1, number));
                }
            }
        }
    }

    private static void filters() {
        for (int number : NO_SHORTS) {
            refused("filter(" + number + ")", s -> s.filter(number));
            refused("chain(" + number + ")", s -> s.chain(number));
            for (int k = 0; k < 16; k++) {
                int asked = k;
                refused("tap(" + k + ", " + number + ")", s -> s.tap(asked, number));
            }
            for (int k = 0; k < 20; k++) {
                int asked = k;
                refused("stage(" + k / 5 + ", " + k % 5 + ", " + number + ")", s -> s.stage(asked / 5, asked % 5, number));
            }
        }
        for (int k : new int[] {-1, 16, 17, TOP, LOW}) {
            refused("tap(" + k + ", 1)", s -> s.tap(k, 1));
        }
        for (int k : new int[] {-1, 5, 6, TOP, LOW}) {
            refused("stage(0, " + k + ", 1)", s -> s.stage(0, k, 1));
            refused("stage(3, " + k + ", 1)", s -> s.stage(3, k, 1));
        }
        for (int stage : new int[] {-1, 4, 5, TOP, LOW}) {
            refused("stage(" + stage + ", 0, 1)", s -> s.stage(stage, 0, 1));
            refused("stage(" + stage + ", 4, 1)", s -> s.stage(stage, 4, 1));
        }
    }

    private static void blockAndAngles() {
        for (int place : new int[] {-1, 32, 33, TOP, LOW}) {
            refused("put(" + place + ", 1, 1)", s -> s.put(place, 1, 1));
            refused("get(" + place + ", false)", s -> s.get(place, false));
            refused("get(" + place + ", true)", s -> s.get(place, true));
        }
        for (int m : new int[] {-1, 6, 7, TOP, LOW}) {
            refused("transform(" + m + ", false)", s -> s.transform(m, false));
            refused("transform(" + m + ", true)", s -> s.transform(m, true));
        }
        for (int far : new int[] {MOST + 1, -MOST - 1, TOP, LOW}) {
            refused("angle(" + far + ", 1)", s -> s.angle(far, 1));
            refused("angle(1, " + far + ")", s -> s.angle(1, far));
            refused("length(" + far + ", 1)", s -> s.length(far, 1));
            refused("length(1, " + far + ")", s -> s.length(1, far));
        }
    }
}
