/** Promises 7 to 11, 14 and 15. */
public final class WorthTest {
    private static final Check CHECK = new Check("WorthTest");

    public static void main(String[] args) {
        value();
        longValue();
        edgeOfLong();
        ends();
        shortly();
        drawn();
        within();
        fails();
        failsLong();
        worst();
        CHECK.end();
    }

    private static void fraction(String call, WishedResistor x, int id, long above, long below) {
        CHECK.due(call + " above", x.value(id, 0), above);
        CHECK.due(call + " below", x.value(id, 1), below);
    }

    private static void value() {
        WishedResistor x = Check.box(10, 15, 7);
        fraction("7 part", x, x.part(1), 15, 1);
        fraction("7 series", x, Check.read(x, "(a+b)"), 25, 1);
        fraction("7 beside", x, Check.read(x, "(a|b)"), 6, 1);
        fraction("7 lowest terms", x, Check.read(x, "((a|b)|b)"), 30, 7);
        fraction("7 both", x, Check.read(x, "((a|c)+(b|c))"), 70 * 22 + 105 * 17, 17 * 22);
        int id = x.part(0);
        CHECK.due("7 bad part", x.value(id, 2), WishedResistor.VOID);
        CHECK.due("7 bad part", x.value(id, -1), WishedResistor.VOID);
        CHECK.due("7 bad id", x.value(-1, 0), WishedResistor.VOID);
        CHECK.due("7 bad id", x.value(x.count(0), 0), WishedResistor.VOID);
    }

    /** The numbers of a ladder of primes grow with each rung until they are too long. */
    private static void longValue() {
        int[] primes = {97, 89, 83, 79};
        WishedResistor x = Check.box(primes);
        for (int sort = 0; sort < 4; sort++) {
            x.part(sort);
        }
        int id = 0;
        long above = 97;
        long below = 1;
        boolean isLong = false;
        for (int rung = 1; rung <= 10; rung++) {
            boolean isSeries = rung % 2 == 0;
            long ohms = primes[rung % 4];
            long top = isSeries ? above + ohms * below : above * ohms;
            long bottom = isSeries ? below : above + ohms * below;
            long divisor = gcd(top, bottom);
            above = top / divisor;
            below = bottom / divisor;
            isLong = isLong || above > 1000000000 || below > 1000000000;
            id = x.join(isSeries ? 0 : 1, id, rung % 4);
            fraction("7 rung " + rung, x, id, isLong ? WishedResistor.LONG : above, isLong ? WishedResistor.LONG : below);
        }
        CHECK.due("7 it grew long", isLong ? 1 : 0, 1);
        CHECK.due("7 long, so what is above it", x.value(x.join(1, id, 0), 1), WishedResistor.LONG);
        for (int sort = 0; sort < 4; sort++) {
            x.sort(sort, 1, 0);
        }
        fraction("7 other ohms, not long", x, id, 144, 89);
    }

    /** 1000000001 by 6914766 is too long by just one, and no net below it is. */
    private static void edgeOfLong() {
        WishedResistor y = Check.box(64, 25, 81, 49);
        String left = "((a|b)+(d+(d|(a+b))))";
        String right = "(c|(a+(a|(a+a))))";
        fraction("7 left", y, Check.read(y, left), 1210747, 12282);
        fraction("7 right", y, Check.read(y, right), 25920, 563);
        fraction("7 one too many", y, Check.read(y, "(" + left + "+" + right + ")"), WishedResistor.LONG, WishedResistor.LONG);
        ladders();
    }

    /** The model's numbers have no bound of their own, so every rung is asked of it. */
    private static void ladders() {
        WishedResistor x = Check.box(32, 31, 64, 25);
        Model m = new Model();
        int[] ohms = {32, 31, 64, 25};
        for (int i = 0; i < 4; i++) {
            m.sort(i, ohms[i], 0);
            m.part(i);
            x.part(i);
        }
        int id = 0;
        for (int i = 0; i < 11; i++) {
            int mine = x.join(1 - i % 2, id, (i + 1) % 4);
            CHECK.due("7 ladder", mine, m.join(1 - i % 2, id, (i + 1) % 4));
            CHECK.due("7 ladder above", x.value(mine, 0), m.value(mine, 0));
            CHECK.due("7 ladder below", x.value(mine, 1), m.value(mine, 1));
            id = mine;
        }
    }

    private static long gcd(long a, long b) {
        return b == 0 ? a : gcd(b, a % b);
    }

    private static void ends() {
        WishedResistor x = new WishedResistor();
        x.sort(0, 33, 7);
        x.sort(1, 47, 50);
        int a = x.part(0);
        int b = x.part(1);
        double[] as = {33 * 93 / 100.0, 33 * 107 / 100.0, 33.0};
        double[] bs = {47 * 50 / 100.0, 47 * 150 / 100.0, 47.0};
        int series = x.join(0, a, b);
        int beside = x.join(1, b, a);
        int both = x.join(1, beside, series);
        for (int what = 0; what < 3; what++) {
            double s = as[what] + bs[what];
            double p = (bs[what] * as[what]) / (bs[what] + as[what]);
            CHECK.due("8 part", x.ends(a, what), Double.doubleToLongBits(as[what]));
            CHECK.due("8 part", x.ends(b, what), Double.doubleToLongBits(bs[what]));
            CHECK.due("8 series", x.ends(series, what), Double.doubleToLongBits(s));
            CHECK.due("8 beside", x.ends(beside, what), Double.doubleToLongBits(p));
            CHECK.due("8 both", x.ends(both, what), Double.doubleToLongBits((p * s) / (p + s)));
        }
        for (int ohms = 1; ohms <= 99; ohms++) {
            x.sort(0, ohms, ohms % 51);
            CHECK.due("8 least", x.ends(a, 0), Double.doubleToLongBits(ohms * (100 - ohms % 51) / 100.0));
            CHECK.due("8 greatest", x.ends(a, 1), Double.doubleToLongBits(ohms * (100 + ohms % 51) / 100.0));
        }
        CHECK.due("8 bad", x.ends(-1, 0), WishedResistor.VOID);
        CHECK.due("8 bad", x.ends(5, 0), WishedResistor.VOID);
        CHECK.due("8 bad", x.ends(0, 3), WishedResistor.VOID);
        CHECK.due("8 bad", x.ends(0, -1), WishedResistor.VOID);
    }

    private static void shortly() {
        WishedResistor x = Check.box(33, 47);
        x.sort(0, 33, 20);
        int a = x.part(0);
        int b = x.part(1);
        float p = 1.0f / (1.0f / 33f + 1.0f / 47f);
        CHECK.due("9 part", x.shortly(b), Float.floatToIntBits(47f));
        CHECK.due("9 series", x.shortly(x.join(0, a, b)), Float.floatToIntBits(80f));
        int beside = x.join(1, a, b);
        CHECK.due("9 beside", x.shortly(beside), Float.floatToIntBits(p));
        float q = 1.0f / (1.0f / p + 1.0f / p);
        CHECK.due("9 both", x.shortly(x.join(1, beside, beside)), Float.floatToIntBits(q));
        x.sort(0, 1, 0);
        int id = x.part(0);
        float low = 1f;
        for (int i = 0; i < 11; i++) {
            id = x.join(1, id, a);
            low = 1.0f / (1.0f / low + 1.0f / 1f);
            CHECK.due("9 below 1", x.shortly(id), Float.floatToIntBits(low));
        }
        CHECK.due("9 bad", x.shortly(-1), WishedResistor.VOID);
        CHECK.due("9 bad", x.shortly(x.count(0)), WishedResistor.VOID);
    }

    private static int drawnFrom;

    private static float draw(int ohms, int spread) {
        drawnFrom = drawnFrom * 1103515245 + 12345;
        int u = (drawnFrom >>> 16) % 201 - 100;
        return (float) ohms + (float) ohms * (float) (spread * u) / 10000.0f;
    }

    private static void drawn() {
        WishedResistor x = new WishedResistor();
        x.sort(0, 33, 20);
        x.sort(1, 47, 50);
        int a = x.part(0);
        int b = x.part(1);
        int series = x.join(0, b, a);
        int twice = x.join(1, series, series);
        int[] seeds = {0, 1, -1, 7, 123456789, Integer.MIN_VALUE, Integer.MAX_VALUE};
        for (int z : seeds) {
            drawnFrom = z;
            CHECK.due("10 part", x.drawn(a, z), Float.floatToIntBits(draw(33, 20)));
            drawnFrom = z;
            float left = draw(47, 50);
            CHECK.due("10 from the left", x.drawn(series, z), Float.floatToIntBits(left + draw(33, 20)));
            drawnFrom = z;
            float one = draw(47, 50);
            one = one + draw(33, 20);
            float two = draw(47, 50);
            two = two + draw(33, 20);
            CHECK.due("10 twice", x.drawn(twice, z), Float.floatToIntBits(1.0f / (1.0f / one + 1.0f / two)));
        }
        x.sort(0, 33, 0);
        CHECK.due("10 no spread", x.drawn(a, 99), Float.floatToIntBits(33f));
        CHECK.due("10 bad", x.drawn(-1, 0), WishedResistor.VOID);
        CHECK.due("10 bad", x.drawn(4, 0), WishedResistor.VOID);
    }

    private static void within() {
        WishedResistor x = new WishedResistor();
        x.sort(0, 40, 50);
        x.sort(1, 33, 0);
        int a = x.part(0);
        int series = x.join(0, a, a);
        for (int e = 0; e <= 99; e += 9) {
            for (int m = 1; m <= 30; m += 29) {
                drawnFrom = 5;
                int hits = 0;
                float w = 239f / 3f;
                for (int i = 0; i < m; i++) {
                    float d = draw(40, 50);
                    d = d + draw(40, 50) - w;
                    d = d < 0.0f ? 0.0f - d : d;
                    hits += d * 100.0f <= w * (float) e ? 1 : 0;
                }
                CHECK.due("11 of " + m + " in " + e, x.within(series, 5, m, 239, 3, e), hits);
            }
        }
        int b = x.part(1);
        CHECK.due("11 just on it", x.within(b, 5, 30, 33, 1, 0), 30);
        CHECK.due("11 just off it", x.within(b, 5, 30, 34, 1, 2), 0);
        CHECK.due("11 at most", x.within(b, 5, 7, 50, 1, 34), 7);
        CHECK.due("11 too far", x.within(b, 5, 7, 50, 1, 33), 0);
        CHECK.due("11 from above", x.within(b, 5, 7, 30, 1, 10), 7);
        int[][] bad = {{-1, 1, 1, 1, 1}, {3, 1, 1, 1, 1}, {0, 0, 1, 1, 1}, {0, 31, 1, 1, 1}, {0, 1, 0, 1, 1}, {0, 1, 1000, 1, 1},
            {0, 1, 1, 0, 1}, {0, 1, 1, 1000, 1}, {0, 1, 1, 1, -1}, {0, 1, 1, 1, 100}};
        for (int[] c : bad) {
            CHECK.due("11 bad", x.within(c[0], 1, c[1], c[2], c[3], c[4]), WishedResistor.BAD);
        }
        CHECK.due("11 not bad", x.within(0, 1, 30, 999, 1, 99) + x.within(0, 1, 1, 1, 999, 0), 30);
    }

    private static void failing(String call, WishedResistor x, int id, int place, int how, long above, long below) {
        CHECK.due(call + " above", x.fails(id, place, how, 0), above);
        CHECK.due(call + " below", x.fails(id, place, how, 1), below);
    }

    private static void fails() {
        WishedResistor x = Check.box(10, 15, 30);
        int a = x.part(0);
        failing("14 part open", x, a, 0, 0, 1, 0);
        failing("14 part short", x, a, 0, 1, 0, 1);
        int series = Check.read(x, "(a+b)");
        failing("14 series open", x, series, 0, 0, 1, 0);
        failing("14 series open", x, series, 1, 0, 1, 0);
        failing("14 series short", x, series, 0, 1, 15, 1);
        failing("14 series short", x, series, 1, 1, 10, 1);
        int beside = Check.read(x, "(a|b)");
        failing("14 beside open", x, beside, 0, 0, 15, 1);
        failing("14 beside open", x, beside, 1, 0, 10, 1);
        failing("14 beside short", x, beside, 0, 1, 0, 1);
        failing("14 beside short", x, beside, 1, 1, 0, 1);
        int deep = Check.read(x, "((a+b)|(c|a))");
        failing("14 open in a series beside", x, deep, 1, 0, 15, 2);
        failing("14 short below", x, deep, 3, 1, 0, 1);
        failing("14 short of the series", x, deep, 0, 1, 5, 1);
        int twice = x.join(0, beside, beside);
        failing("14 only one of both", x, twice, 2, 1, 6, 1);
        failing("14 only one of both", x, twice, 1, 0, 16, 1);
        int[][] bad = {{-1, 0, 0, 0}, {99, 0, 0, 0}, {a, -1, 0, 0}, {a, 1, 0, 0}, {deep, 4, 0, 0}, {a, 0, -1, 0}, {a, 0, 2, 0},
            {a, 0, 0, -1}, {a, 0, 0, 2}};
        for (int[] c : bad) {
            CHECK.due("14 bad", x.fails(c[0], c[1], c[2], c[3]), WishedResistor.VOID);
        }
    }

    private static void failsLong() {
        WishedResistor x = Check.box(97, 89, 83, 79);
        String ladder = "(a|(b+(c|(d+(a|(b+(c|(d+(a|(b+c))))))))))";
        int id = Check.read(x, ladder);
        CHECK.due("14 long", x.value(id, 0), WishedResistor.LONG);
        CHECK.due("14 short far below, long above", x.fails(id, 10, 0, 0), WishedResistor.LONG);
        CHECK.due("14 open near the top, long below", x.fails(id, 1, 0, 0), WishedResistor.LONG);
        CHECK.due("14 short at the top, long below", x.fails(id, 0, 1, 1), WishedResistor.LONG);
        // a | (b + (c | (d + (a | open)))) is short enough.
        failing("14 not long by the failing", x, id, 5, 0, x.fails(id, 5, 0, 0), x.fails(id, 5, 0, 1));
        Model m = new Model();
        int[] ohms = {97, 89, 83, 79};
        for (int i = 0; i < 4; i++) {
            m.sort(i, ohms[i], 0);
        }
        for (int i = 0; i < ladder.length(); i++) {
            m.feed(ladder.charAt(i));
        }
        m.read();
        for (int place = 0; place < 11; place++) {
            for (int how = 0; how < 2; how++) {
                failing("14 long " + place, x, id, place, how, m.fails(id, place, how, 0), m.fails(id, place, how, 1));
            }
        }
        CHECK.due("15 long", x.worst(id, 0), WishedResistor.LONG);
        CHECK.due("15 long", x.worst(id, 1), WishedResistor.LONG);
    }

    private static void worst() {
        WishedResistor x = Check.box(10, 15, 30);
        CHECK.due("15 part", x.worst(x.part(0), 0), 0);
        CHECK.due("15 part", x.worst(x.part(0), 1), 0);
        int series = Check.read(x, "(a+c)");
        CHECK.due("15 series open: first of like ones", x.worst(series, 0), 0);
        CHECK.due("15 series short", x.worst(series, 1), 1);
        int beside = Check.read(x, "(c|a)");
        CHECK.due("15 beside open", x.worst(beside, 0), 1);
        CHECK.due("15 beside short: first of like ones", x.worst(beside, 1), 0);
        int mixed = Check.read(x, "((a|b)+(c+a))");
        CHECK.due("15 1 by 0 is greatest, the first", x.worst(mixed, 0), 2);
        CHECK.due("15 the least", x.worst(mixed, 1), 2);
        int three = Check.read(x, "((b|c)|(a+(a|b)))");
        CHECK.due("15 greatest of several", x.worst(three, 0), 0);
        CHECK.due("15 least of several", x.worst(three, 1), 0);
        CHECK.due("15 bad", x.worst(-1, 0), WishedResistor.BAD);
        CHECK.due("15 bad", x.worst(x.count(0), 0), WishedResistor.BAD);
        CHECK.due("15 bad", x.worst(0, 2), WishedResistor.BAD);
        CHECK.due("15 bad", x.worst(0, -1), WishedResistor.BAD);
    }
}
