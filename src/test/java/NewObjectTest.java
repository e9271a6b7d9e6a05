/** Promise 1. */
public final class NewObjectTest {
    public static void main(String[] args) {
        Check check = new Check();
        blockIsNought(check);
        filtersAreAsTold(check);
        objectsAreApart(check);
        check.end();
    }

    private static void blockIsNought(Check check) {
        FixedSignals made = new FixedSignals();
        for (int p = 0; p < 32; p++) {
            check.due("get(" + p + ", false)", made.get(p, false), 0);
            check.due("get(" + p + ", true)", made.get(p, true), 0);
        }
        check.due("the first exponent", made.transform(0, false), 0);
        check.due("the exponent of 0s", made.transform(5, true), 0);
    }

    private static void filtersAreAsTold(Check check) {
        FixedSignals made = new FixedSignals();
        for (int i = 0; i < 20; i++) {
            check.due("filter without taps", made.filter(32767), 0);
        }
        check.due("chain lets through", made.chain(-32768), -32768);
        check.due("chain lets through", made.chain(32767), 32767);
        check.due("chain lets through", made.chain(1), 1);
        for (int k = 0; k < 16; k++) {
            FixedSignals fresh = new FixedSignals();
            fresh.tap(k, 32767);
            int first = fresh.filter(0);
            check.due("a past input at first", first, 0);
        }
    }

    private static void objectsAreApart(Check check) {
        FixedSignals one = new FixedSignals();
        FixedSignals other = new FixedSignals();
        one.put(3, 5, 6);
        one.tap(0, 32767);
        one.stage(0, 0, 0);
        one.filter(100);
        check.due("the other's get(3, false)", other.get(3, false), 0);
        check.due("the other's filter", other.filter(1000), 0);
        check.due("the other's chain", other.chain(1000), 1000);
    }
}
