/** C 0 .. 8, the WAVES 0 .. 15 made of it, and the ARCS of the TURNS 0 .. 29, number by number. */
public final class TablesTest {
    private static final int BIG = 1 << 29;
    private static final int LOW = Integer.MIN_VALUE;
    private static final int TOP = Integer.MAX_VALUE;
    private static final long[] C = {
        0, 418953276, 821806413, 1193077991, 1518500250, 1785567396, 1984016189, 2106220352, 2147483647
    };
    private static final int[] ARCS = {
        536870912, 316933406, 167458907, 85004756, 42667331, 21354465, 10679838, 5340245, 2670163, 1335087,
        667544, 333772, 166886, 83443, 41722, 20861, 10430, 5215, 2608, 1304,
        652, 326, 163, 81, 41, 20, 10, 5, 3, 1
    };

    /** Row i: x, y of two points that are turned alike in all TURNS but i, there down and up: 2 ARCS lie between. */
    private static final int[][] ALIKE_BUT_ONE = {
        {520860876, 130131928, 130131928, -520860876}, {302245266, 443709556, 536314804, 24429520},
        {396979933, 361437828, 520364801, 132101645}, {536827052, -6861966, 518620198, -138792872},
        {531510863, -75674128, 517952132, -141265565}, {489229584, 221099039, 502080198, 190120608},
        {132912032, -520158401, 116596168, -524056967}, {316578338, 433599500, 323314274, 428600339},
        {389340898, -369653940, 386441140, -372684339}, {524155677, -116151612, 523697962, -118198202},
        {528772162, -92899792, 528589709, -93932372}, {536834000, -6295056, 536827596, -6819305},
        {391512164, -367353503, 391332746, -367544627}, {530177521, 84511340, 530198138, 84381900},
        {286517234, 454024498, 286572656, 453989519}, {261754587, -468737567, 261725977, -468753543},
        {479032526, -242400928, 479025128, -242415546}, {323493258, 428465264, 323499796, 428460328},
        {303779438, 442660619, 303782816, 442658301}, {403506462, -354136846, 403505111, -354138385},
        {327132280, -425693366, 327131468, -425693990}, {474062107, 251983114, 474062347, 251982661},
        {529049148, -91309197, 529049105, -91309449}, {381804952, 377432576, 381805042, 377432485},
        {535948507, 31457408, 535948511, 31457344}, {513068834, -158084605, 513068825, -158084635},
        {536647372, -15490947, 536647371, -15490963}, {134699010, -519698516, 134699002, -519698518},
        {323954824, -428116389, 323954820, -428116392}, {536860361, 3365065, 536860361, 3365064}
    };

    /** Row i: cosine and sine where z is -1 behind TURN i, and where it is 0. The last TURN's z turns nothing more. */
    private static final int[][] BELOW_AND_NOT = {
        {759250120, 759250129, 759250129, 759250120}, {1018640937, 339546979, 1018640933, 339546977},
        {905874629, 576465663, 905874621, 576465676}, {970381119, 459654211, 970381111, 459654215},
        {939818940, 519289778, 939818925, 519289785}, {955580271, 489681388, 955580250, 489681404},
        {947813304, 504550739, 947813287, 504550761}, {951726063, 497130777, 951726046, 497130801},
        {949776902, 500844638, 949776880, 500844656}, {950753302, 498988652, 950753277, 498988675},
        {950265555, 499916886, 950265533, 499916905}, {950509538, 499452829, 950509520, 499452848},
        {950387573, 499684871, 950387557, 499684890}, {950448564, 499568855, 950448545, 499568871},
        {950418071, 499626865, 950418052, 499626880}, {950433317, 499597861, 950433299, 499597875},
        {950425693, 499612363, 950425677, 499612377}, {950429503, 499605113, 950429489, 499605125},
        {950427597, 499608739, 950427585, 499608749}, {950428549, 499606927, 950428537, 499606937},
        {950428073, 499607833, 950428061, 499607843}, {950428311, 499607381, 950428299, 499607389},
        {950428191, 499607607, 950428181, 499607615}, {950428249, 499607495, 950428241, 499607501},
        {950428219, 499607551, 950428213, 499607557}, {950428233, 499607523, 950428227, 499607529},
        {950428225, 499607537, 950428221, 499607543}, {950428227, 499607531, 950428225, 499607535},
        {950428225, 499607535, 950428225, 499607537}
    };
    private static final Check CHECK = new Check();

    public static void main(String[] args) {
        arcsOfAngles();
        arcsOfWaves();
        for (int m = 1; m <= 5; m++) {
            wavesOfTransform(m);
        }
        firstAndLastOfC();
        CHECK.end();
    }

    private static void arcsOfAngles() {
        for (int i = 0; i < 30; i++) {
            CHECK.sentence("ARC " + i + " of ANGLE is " + ARCS[i]);
            FixedSignals signals = new FixedSignals();
            int[] row = ALIKE_BUT_ONE[i];
            int between = signals.angle(row[0], row[1]) - signals.angle(row[2], row[3]);
            CHECK.due("angle(" + row[0] + ", " + row[1] + ") less angle(" + row[2] + ", " + row[3] + ")",
                between, 2L * ARCS[i]);
            int behind = signals.angle(-row[0], -row[1]) - signals.angle(-row[2], -row[3]);
            CHECK.due("the same behind, where both are turned round", behind, between);
        }
    }

    private static void arcsOfWaves() {
        int angle = 0;
        for (int i = 0; i < 29; i++) {
            CHECK.sentence("ARC " + i + " of WAVES is " + ARCS[i]);
            angle += i % 2 == 0 ? ARCS[i] : -ARCS[i];
            FixedSignals signals = new FixedSignals();
            int[] row = BELOW_AND_NOT[i];
            wave(signals, angle - 1, row[0], row[1], 1);
            wave(signals, angle, row[2], row[3], 1);
            wave(signals, angle - 1 + LOW, row[0], row[1], -1);
            wave(signals, angle + LOW, row[2], row[3], -1);
        }
    }

    private static void wave(FixedSignals signals, int angle, int cosine, int sine, int sign) {
        CHECK.due("wave(" + angle + ", true)", signals.wave(angle, true), sign * cosine);
        CHECK.due("wave(" + angle + ", false)", signals.wave(angle, false), sign * sine);
    }

    private static long rounded(long value) {
        return (value + (1L << 30)) >> 31;
    }

    /** A number that, times either of them and ROUNDED by 31, tells the one from the other; 0 if there is none. */
    private static int telling(long one, long other) {
        for (int number = BIG - 1; number > BIG - 5000; number--) {
            if (rounded(number * one) != rounded(number * other)) {
                return number;
            }
            if (rounded(-number * one) != rounded(-number * other)) {
                return -number;
            }
        }
        return 0;
    }

    private static void wavesOfTransform(int m) {
        int half = 1 << m - 1;
        for (int j = 0; j < half; j++) {
            int k = j * 16 / half;
            long c = k <= 8 ? C[8 - k] : -C[k - 8];
            long s = k <= 8 ? C[k] : C[16 - k];
            CHECK.sentence("WAVE " + k + ": c is " + c + ", s is " + s + "; TRANSFORM with m = " + m);
            for (int side = -1; side <= 1; side += 2) {
                int tellsC = telling(c, c + side);
                int tellsS = telling(s, s + side);
                CHECK.holds("numbers tell c and s from the next ones", k % 8 == 0 || tellsC != 0 && tellsS != 0);
                alone(m, j, tellsC, c, s);
                alone(m, j, tellsS, c, s);
            }
        }
    }

    /** A number in PLACE 1 alone is in all of the last step's second half, so that each WAVE is seen by itself. */
    private static void alone(int m, int j, int number, long c, long s) {
        int q = j + (1 << m - 1);
        for (int way = 0; way < 2; way++) {
            boolean back = way == 1;
            long sine = back ? s : -s;
            FixedSignals first = new FixedSignals();
            first.put(1, number, 0);
            first.transform(m, back);
            place(first, j, rounded(number * c), rounded(number * sine));
            place(first, q, -rounded(number * c), -rounded(number * sine));
            FixedSignals second = new FixedSignals();
            second.put(1, 0, number);
            second.transform(m, back);
            place(second, j, rounded(-number * sine), rounded(number * c));
            place(second, q, -rounded(-number * sine), -rounded(number * c));
        }
    }

    private static void place(FixedSignals signals, int place, long re, long im) {
        CHECK.due("get(" + place + ", false)", signals.get(place, false), re);
        CHECK.due("get(" + place + ", true)", signals.get(place, true), im);
    }

    /** Numbers below 2^29 cannot tell C 0 and C 8 from the next ones; 2^29 itself, left by 2^31, can. */
    private static void firstAndLastOfC() {
        CHECK.sentence("C 0 is 0, C 8 is 2147483647");
        for (int re : new int[] {LOW, TOP}) {
            for (int im : new int[] {LOW, TOP}) {
                FixedSignals signals = new FixedSignals();
                signals.put(1, re, im);
                CHECK.due("transform(1, false)", signals.transform(1, false), 2);
                place(signals, 0, re < 0 ? -BIG : BIG, im < 0 ? -BIG : BIG);
                place(signals, 1, re < 0 ? BIG : -BIG, im < 0 ? BIG : -BIG);
            }
        }
    }
}
