/** Promise 3. */
public final class SmallTest {
    private static final int LOW = -32768;
    private static final int TOP = 32767;
    private static final Check CHECK = new Check();

    public static void main(String[] args) {
        byHand();
        wrongInputs();
        asModel();
        CHECK.end();
    }

    private static void due(int way, int a, int b, long want) {
        CHECK.due("small(" + way + ", " + a + ", " + b + ")", new FixedSignals().small(way, a, b), want);
    }

    private static void byHand() {
        due(0, 2, 3, 5);
        due(0, TOP, 1, TOP);
        due(0, LOW, -1, LOW);
        due(1, 0, LOW, TOP);
        due(1, LOW, TOP, LOW);
        due(2, LOW, LOW, TOP);
        due(2, 16384, 1, 1);
        due(2, 16383, 1, 0);
        due(2, -16384, 1, 0);
        due(2, -16385, 1, -1);
        due(2, TOP, LOW, -TOP);
        due(3, 1, 15, TOP);
        due(3, -1, 15, LOW);
        due(3, 1, 14, 16384);
        due(3, 5, -1, 3);
        due(3, -5, -1, -2);
        due(3, TOP, -15, 1);
        due(3, LOW, -15, -1);
        due(3, 9, 0, 9);
        due(4, LOW, 0, TOP);
        due(4, TOP, 0, -TOP);
        due(5, LOW, 0, TOP);
        due(5, -3, 0, 3);
        due(4, 3, 1000000, -3);
        due(5, 3, Integer.MIN_VALUE, 3);
    }

    private static void refuses(int way, int a, int b) {
        CHECK.refuses("small(" + way + ", " + a + ", " + b + ")", () -> new FixedSignals().small(way, a, b));
    }

    private static void wrongInputs() {
        refuses(-1, 0, 0);
        refuses(6, 0, 0);
        refuses(3, 0, 16);
        refuses(3, 0, -16);
        for (int way = 0; way <= 5; way++) {
            refuses(way, TOP + 1, 0);
            refuses(way, LOW - 1, 0);
            refuses(way, Integer.MIN_VALUE, 0);
        }
        for (int way = 0; way <= 2; way++) {
            refuses(way, 0, TOP + 1);
            refuses(way, 0, LOW - 1);
        }
    }

    private static void asModel() {
        int[] numbers = {LOW, LOW + 1, -16385, -16384, -3, -1, 0, 1, 2, 255, 16383, 16384, TOP - 1, TOP};
        Model model = new Model();
        for (int a : numbers) {
            for (int b : numbers) {
                for (int way = 0; way <= 5; way++) {
                    if (way != 3) {
                        due(way, a, b, model.small(way, a, b));
                    }
                }
            }
            for (int b = -15; b <= 15; b++) {
                due(3, a, b, model.small(3, a, b));
            }
        }
    }
}
