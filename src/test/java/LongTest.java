import java.math.BigInteger;

/** The edge of LONG: 1000000000 itself is taken, the next number is not; and what is LONG by a number below alone. */
public final class LongTest {
    private static final Check CHECK = new Check("LongTest");
    private static final long BILLION = 1000000000L;
    private static final int LONG = WishedResistor.LONG;

    public static void main(String[] args) {
        above();
        below();
        failingAbove();
        inLowestTerms();
        belowAlone();
        besideShort();
        ofOther();
        oneWorst();
        onlyWorst();
        CHECK.end();
    }

    private static WishedResistor reads(int[] ohms, String text) {
        WishedResistor x = Check.box(ohms);
        int id = Check.read(x, text);
        CHECK.due("17 the last is " + text, id, x.count(0) - 1);
        return x;
    }

    private static int last(WishedResistor x) {
        return x.count(0) - 1;
    }

    private static void worth(int[] ohms, String text, long above, long below) {
        WishedResistor x = reads(ohms, text);
        CHECK.due("7 above of " + text, x.value(last(x), 0), above);
        CHECK.due("7 below of " + text, x.value(last(x), 1), below);
        CHECK.due("12 itself " + text, x.alike(last(x), last(x)), above == LONG ? LONG : 1);
    }

    /** What the value would be, were there no LONG: above, below in lowest terms. */
    private static BigInteger[] exact(WishedResistor x, int id) {
        if (x.net(id, 0) == 0) {
            return new BigInteger[] {BigInteger.valueOf(x.ofSort(x.net(id, 1), 0)), BigInteger.ONE};
        }
        BigInteger[] a = exact(x, x.net(id, 1));
        BigInteger[] b = exact(x, x.net(id, 2));
        BigInteger crosswise = a[0].multiply(b[1]).add(b[0].multiply(a[1]));
        boolean isSeries = x.net(id, 0) == 1;
        BigInteger above = isSeries ? crosswise : a[0].multiply(b[0]);
        BigInteger below = isSeries ? a[1].multiply(b[1]) : crosswise;
        BigInteger divisor = above.gcd(below);
        return new BigInteger[] {above.divide(divisor), below.divide(divisor)};
    }

    /** LONG, though it would be these two, of which one is too long or neither. */
    private static void tooLong(int[] ohms, String text, long above, long below) {
        worth(ohms, text, LONG, LONG);
        WishedResistor x = reads(ohms, text);
        BigInteger[] exact = exact(x, last(x));
        CHECK.due("7 it would be, above: " + text, exact[0].longValueExact(), above);
        CHECK.due("7 it would be, below: " + text, exact[1].longValueExact(), below);
    }

    private static void above() {
        worth(new int[] {87, 80, 97, 82}, "((b+(b|(b+(b|(b+d)))))+(b|(c+(d+(d|(b+c))))))", BILLION, 5271037);
        worth(new int[] {68, 16, 61, 25}, "((b|(b|(c|(c|(d|d)))))+((a+d)|(a+(a|(b+d)))))", BILLION, 19665879);
        worth(new int[] {50, 83, 14, 55}, "((c+(d+(b|(c+(b|d)))))+(c|((a+b)|(a+(a+d)))))", BILLION, 9029353);
        tooLong(new int[] {51, 92, 2, 38}, "((b+(a|(b|(a+(c+d)))))+((a|a)+(b|(b+(b+c)))))", BILLION + 1, 4921990);
        tooLong(new int[] {52, 93, 8, 79}, "((a|(a+((a+a)|(b+c))))+(c|((a+c)|(b+(c|d)))))", BILLION + 1, 24285843);
    }

    private static void below() {
        worth(new int[] {1, 76, 93, 97}, "(a|((c+(d|(d|(b+b))))|(a+((d|d)+(a|(a|c))))))", 973039863, BILLION);
        tooLong(new int[] {1, 17, 61, 18}, "(a|((d|(b+(d+d)))|((c|d)+(c|(c+(b|b))))))", 912423726, BILLION + 1);
        tooLong(new int[] {1, 49, 76, 78}, "(a|((c|(d|(c+(a|b))))+((b|b)+(b|(a+(b|b))))))", 985279695, BILLION + 1);
    }

    /** Eleven parts of which the value is known, and a twelfth that fails, so that just that value is left. */
    private static void left(int[] ohms, String eleven, long above, long below) {
        WishedResistor x = reads(ohms, eleven);
        int id = last(x);
        CHECK.due("6 eleven", x.net(id, 3), 11);
        CHECK.due("7 above of " + eleven, x.value(id, 0), above);
        CHECK.due("7 below of " + eleven, x.value(id, 1), below);
        int series = x.join(0, id, 0);
        int beside = x.join(1, id, 0);
        CHECK.due("14 a series, the last SHORT", x.fails(series, 11, 1, 0), above);
        CHECK.due("14 a series, the last SHORT, below", x.fails(series, 11, 1, 1), below);
        CHECK.due("14 a beside, the last OPEN", x.fails(beside, 11, 0, 0), above);
        CHECK.due("14 a beside, the last OPEN, below", x.fails(beside, 11, 0, 1), below);
        CHECK.due("14 a beside, the last SHORT", x.fails(beside, 11, 1, 0), above == LONG ? LONG : 0);
        CHECK.due("14 a series, the last OPEN", x.fails(series, 11, 0, 1), above == LONG ? LONG : 0);
        int turned = x.join(1, 0, id);
        CHECK.due("14 a beside, the first OPEN", x.fails(turned, 0, 0, 0), above);
        CHECK.due("14 a beside, the first SHORT", x.fails(turned, 0, 1, 1), above == LONG ? LONG : 1);
    }

    private static void failingAbove() {
        left(new int[] {29, 17, 39, 84}, "((a+(c|(a+(b|c))))+(d|(b+((a|a)+(a|b)))))", BILLION, 12979313);
        left(new int[] {27, 80, 57, 84}, "((b+(b|(d|(a+b))))+(c|((b+b)|(a+(d+d)))))", BILLION, 6934581);
        // These would be 1000000001 by 18407989, by 39108801.
        left(new int[] {24, 73, 10, 15}, "((c|(b+(a|(b+c))))+(d+((a+a)|(b+(a|d)))))", LONG, LONG);
        left(new int[] {13, 29, 71, 60}, "(((a|d)+(a|(d|d)))+(a|(a|(a+(d|(c+c))))))", LONG, LONG);
    }

    /** The numbers ahead of lowest terms may be as great as they will. */
    private static void inLowestTerms() {
        String half = "((a|(b+(c|d)))+(a|b))";
        WishedResistor x = reads(new int[] {97, 89, 83, 79}, half);
        int id = last(x);
        long above = x.value(id, 0);
        long below = x.value(id, 1);
        CHECK.due("7 great ahead of lowest terms", above * below * 2 > BILLION * 2 ? 1 : 0, 1);
        long two = below % 2 == 0 ? 1 : 2;
        int series = x.join(0, id, id);
        CHECK.due("7 a series of both", x.value(series, 0), above * two);
        CHECK.due("7 a series of both, below", x.value(series, 1), below * two / 2);
        two = above % 2 == 0 ? 1 : 2;
        int beside = x.join(1, id, id);
        CHECK.due("7 both beside one another", x.value(beside, 0), above * two / 2);
        CHECK.due("7 both beside one another, below", x.value(beside, 1), below * two);
    }

    /** Each of these would have a value of short numbers, but for one below it that is LONG. */
    private static void belowAlone() {
        tooLong(new int[] {99, 32, 49, 96}, "(c|(((d+(((c+a)+(c|((d|c)+(b+a))))|d))|d)|c))", 460725440, 26496819);
        String[] texts = {"(c|(c|(b+((a|((a+((c|(b|(d+b)))|a))+d))|d))))", "((((d|((((a+d)|d)|a)+a))+c)|b)|c)"};
        int[][] ohms = {{98, 63, 18, 12}, {56, 87, 3, 62}};
        for (int i = 0; i < texts.length; i++) {
            WishedResistor x = reads(ohms[i], texts[i]);
            CHECK.due("7 LONG: " + texts[i], x.value(last(x), 0), LONG);
            BigInteger[] exact = exact(x, last(x));
            BigInteger greater = exact[0].max(exact[1]);
            CHECK.due("7 it would be short: " + texts[i], greater.compareTo(BigInteger.valueOf(BILLION)) <= 0 ? 1 : 0, 1);
        }
    }

    /** What is LONG stays so beside a 0 by 1, or in series with a 1 by 0. */
    private static void besideShort() {
        int[] ohms = {24, 73, 10, 15};
        String eleven = "((c|(b+(a|(b+c))))+(d+((a+a)|(b+(a|d)))))";
        WishedResistor x = reads(ohms, "(a|" + eleven + ")");
        CHECK.due("14 a 0 by 1 ahead of it", x.fails(last(x), 0, 1, 0), LONG);
        CHECK.due("14 a 1 by 0 ahead of it", x.fails(last(x), 0, 0, 0), LONG);
        WishedResistor y = reads(ohms, "(" + eleven + "+a)");
        CHECK.due("14 a 0 by 1 behind it", y.fails(last(y), 11, 1, 0), LONG);
        CHECK.due("14 a 1 by 0 behind it", y.fails(last(y), 11, 0, 0), LONG);
        CHECK.due("15 LONG by OPEN", y.worst(last(y), 0), LONG);
        CHECK.due("15 LONG by SHORT", y.worst(last(y), 1), LONG);
    }

    /** A value is LONG by the box as it is. */
    private static void ofOther() {
        WishedResistor x = reads(new int[] {51, 92, 2, 38}, "((b+(a|(b|(a+(c+d)))))+((a|a)+(b|(b+(b+c)))))");
        x.image();
        CHECK.due("7 LONG", x.value(last(x), 0), LONG);
        for (int sort = 0; sort < 4; sort++) {
            x.sort(sort, 1, 0);
        }
        CHECK.due("7 no more", x.value(last(x), 0) > 0 ? 1 : 0, 1);
        x.back();
        CHECK.due("7 LONG again", x.value(last(x), 1), LONG);
        CHECK.due("9 by floats it is not", x.shortly(last(x)) > 0 ? 1 : 0, 1);
        CHECK.due("8 by doubles it is not", x.ends(last(x), 2) > 0 ? 1 : 0, 1);
        CHECK.due("13 nor for turning", x.turned(last(x), last(x)), 1);
        CHECK.due("11 nor for draws", x.within(last(x), 0, 30, 1, 999, 0), 0);
    }

    /** The value is not LONG, nor is it by any place that fails but by one. */
    private static void oneLong(int[] ohms, String text, int how, int place) {
        WishedResistor x = reads(ohms, text);
        int id = last(x);
        CHECK.due("7 not LONG: " + text, x.value(id, 0) > 0 ? 1 : 0, 1);
        for (int i = 0; i < x.net(id, 3); i++) {
            CHECK.due("14 place " + i + " of " + text, x.fails(id, i, how, 0) == LONG ? 1 : 0, i == place ? 1 : 0);
        }
        CHECK.due("15 LONG by one place: " + text, x.worst(id, how), LONG);
    }

    private static void oneWorst() {
        oneLong(new int[] {79, 47, 15, 5}, "((((b|(d+(a|c)))+((b+c)+a))|c)|(a+b))", 1, 9);
        oneLong(new int[] {15, 41, 59, 28}, "(((d+b)|c)+((b|(((a|c)|b)+a))|a))", 0, 8);
        oneLong(new int[] {30, 59, 57, 43}, "(d|(c|(a+((((b+d)+d)|(a+(d+(c|a))))|a))))", 0, 10);
        oneLong(new int[] {90, 42, 77, 74}, "((((a+(d|d))+((d+b)|((a|b)|d)))|c)|b)", 1, 0);
        oneLong(new int[] {87, 10, 92, 41}, "((b|(b+(((d|(c+(b+b)))|((b+b)+(c|b)))|c)))|d)", 0, 0);
        oneLong(new int[] {46, 11, 60, 15}, "(c+(b|(((d|d)|a)+(a|(a+(d+((b+(c|d))|a)))))))", 0, 10);
        oneLong(new int[] {78, 97, 44, 58}, "((d+(a|((c|(((c+(b|c))|(d+c))|(c|b)))|a)))+a)", 1, 7);
    }

    /** The value is LONG, but by no place that fails: the greatest, the least are told. */
    private static void valueLong(int[] ohms, String text, int how) {
        WishedResistor x = reads(ohms, text);
        int id = last(x);
        CHECK.due("7 LONG: " + text, x.value(id, 0), LONG);
        int best = 0;
        for (int i = 0; i < x.net(id, 3); i++) {
            long above = x.fails(id, i, how, 0);
            CHECK.due("14 not LONG, place " + i + " of " + text, above == LONG ? 1 : 0, 0);
            double mine = ratio(x, id, i, how);
            double other = ratio(x, id, best, how);
            best = (how == 0 ? mine > other : mine < other) ? i : best;
        }
        CHECK.due("15 not LONG: " + text, x.worst(id, how), best);
    }

    private static double ratio(WishedResistor x, int id, int place, int how) {
        return (double) x.fails(id, place, how, 0) / x.fails(id, place, how, 1);
    }

    private static void onlyWorst() {
        for (int how = 0; how < 2; how++) {
            valueLong(new int[] {22, 18, 61, 16}, "(((d+((((c|a)|(d+b))|(d|b))+a))|b)|d)", how);
            valueLong(new int[] {29, 88, 71, 57}, "(b|(((c|(d+(b+c)))+(d+((a|b)+(c+c))))+b))", how);
        }
        valueLong(new int[] {41, 13, 43, 79}, "(((d|(((a+(b+(b+((b|a)+b))))|b)+c))+(c+a))|c)", 0);
        valueLong(new int[] {39, 57, 80, 84}, "(d+((((((c|a)|((a|d)|d))|a)+(d|c))+b)|c))", 1);
    }
}
