/** Promise 2. */
public final class WorkTest {
    private static final int LOW = Integer.MIN_VALUE;
    private static final int TOP = Integer.MAX_VALUE;
    private static final Check CHECK = new Check();

    public static void main(String[] args) {
        sums();
        products();
        moves();
        signs();
        wrongInputs();
        asModel();
        CHECK.end();
    }

    private static void due(int way, int a, int b, long want) {
        CHECK.due("work(" + way + ", " + a + ", " + b + ")", new FixedSignals().work(way, a, b), want);
    }

    private static void sums() {
        due(0, 2, 3, 5);
        due(0, TOP, 1, TOP);
        due(0, LOW, -1, LOW);
        due(0, LOW, LOW, LOW);
        due(0, TOP, LOW, -1);
        due(1, 2, 3, -1);
        due(1, LOW, 1, LOW);
        due(1, TOP, -1, TOP);
        due(1, 0, LOW, TOP);
        due(1, -1, LOW, TOP);
    }

    private static void products() {
        due(2, LOW, LOW, TOP);
        due(2, LOW, TOP, -TOP);
        due(2, TOP, TOP, TOP - 1);
        due(2, 1 << 30, 1, 1);
        due(2, (1 << 30) - 1, 1, 0);
        due(2, -(1 << 30), 1, 0);
        due(2, -(1 << 30) - 1, 1, -1);
        due(2, 1 << 30, 1 << 30, 1 << 29);
    }

    private static void moves() {
        due(3, 5, 0, 5);
        due(3, LOW, 0, LOW);
        due(3, 5, 2, 20);
        due(3, 1, 31, TOP);
        due(3, -1, 31, LOW);
        due(3, LOW, 31, LOW);
        due(3, 1, 30, 1 << 30);
        due(3, 5, -1, 3);
        due(3, -5, -1, -2);
        due(3, 6, -2, 2);
        due(3, -6, -2, -1);
        due(3, -7, -2, -2);
        due(3, LOW, -31, -1);
        due(3, TOP, -31, 1);
        due(3, TOP, -1, 1 << 30);
    }

    private static void signs() {
        due(4, 7, 99, -7);
        due(4, LOW, LOW, TOP);
        due(4, TOP, TOP, -TOP);
        due(5, -7, 99, 7);
        due(5, 7, -99, 7);
        due(5, LOW, 32, TOP);
        due(5, 0, 0, 0);
    }

    private static void wrongInputs() {
        CHECK.refuses("work(-1, 0, 0)", () -> new FixedSignals().work(-1, 0, 0));
        CHECK.refuses("work(6, 0, 0)", () -> new FixedSignals().work(6, 0, 0));
        CHECK.refuses("work(LOW, 0, 0)", () -> new FixedSignals().work(LOW, 0, 0));
        CHECK.refuses("work(3, 0, 32)", () -> new FixedSignals().work(3, 0, 32));
        CHECK.refuses("work(3, 0, -32)", () -> new FixedSignals().work(3, 0, -32));
        CHECK.refuses("work(3, 0, LOW)", () -> new FixedSignals().work(3, 0, LOW));
    }

    private static void asModel() {
        int[] numbers = {LOW, LOW + 1, -(1 << 30) - 1, -(1 << 30), -32769, -3, -1, 0, 1, 2, 65535, 1 << 30, TOP - 1, TOP};
        Model model = new Model();
        for (int a : numbers) {
            for (int b : numbers) {
                for (int way = 0; way <= 5; way++) {
                    if (way != 3) {
                        due(way, a, b, model.work(way, a, b));
                    }
                }
            }
            for (int b = -31; b <= 31; b++) {
                due(3, a, b, model.work(3, a, b));
            }
        }
    }
}
