/** Promise 4. */
public final class NarrowTest {
    private static final Check CHECK = new Check();

    public static void main(String[] args) {
        due(0, 0);
        due(65536, 1);
        due(32768, 1);
        due(32767, 0);
        due(-32768, 0);
        due(-32769, -1);
        due(-65536, -1);
        due(Integer.MAX_VALUE, 32767);
        due(Integer.MAX_VALUE - 32768, 32767);
        due(Integer.MAX_VALUE - 98304, 32766);
        due(Integer.MAX_VALUE - 98303, 32767);
        due(Integer.MIN_VALUE, -32768);
        due(Integer.MIN_VALUE + 32767, -32768);
        due(Integer.MIN_VALUE + 32768, -32767);
        CHECK.end();
    }

    private static void due(int a, int want) {
        CHECK.due("narrow(" + a + ")", new FixedSignals().narrow(a), want);
    }
}
