/**
 * Each number that a call is given: the least and the greatest that is taken and what is answered
 * then, the next outside on either side, and numbers that would be inside if they wrapped around.
 */
public final class RangesTest {
    private static final Check CHECK = new Check("RangesTest");
    private static final long BAD = WishedResistor.BAD, VOID = WishedResistor.VOID;
    private static final long MISSING = -11, OUTSIDE = -13, SIZE = -14;
    private static final int LEAST = Integer.MIN_VALUE, MOST = Integer.MAX_VALUE;

    interface Ask {
        long ask(WishedResistor x, int number);
    }

    public static void main(String[] args) {
        box();
        nets();
        worth();
        drawn();
        failing();
        texts();
        reached();
        nearest();
        mesh();
        between();
        trays();
        places();
        shifted();
        counts();
        CHECK.end();
    }

    private static void taken(String name, Ask call, int number, long due) {
        WishedResistor x = new WishedResistor();
        World.some(x);
        CHECK.due(name + " taken: " + number, call.ask(x, number), due);
    }

    private static void outside(String name, Ask call, int number, long due) {
        Twin.refused(CHECK, name + " outside: " + number, World::some, x -> call.ask(x, number), due);
    }

    /** What lies outside, where numbers from least to most are taken. */
    private static void around(String name, Ask call, int least, int most, long refusal) {
        outside(name, call, least - 1, refusal);
        outside(name, call, most + 1, refusal);
        outside(name, call, LEAST, refusal);
        outside(name, call, MOST, refusal);
        int[] wraps = {1 << 8, 1 << 16, 1 << 31};
        for (int wrap : wraps) {
            int[] others = {least + wrap, most + wrap, least - wrap, most - wrap};
            for (int other : others) {
                if (other < least || other > most) {
                    outside(name, call, other, refusal);
                }
            }
        }
    }

    private static void range(String name, Ask call, int least, long first, int most, long last, long refusal) {
        taken(name, call, least, first);
        taken(name, call, most, last);
        around(name, call, least, most, refusal);
    }

    private static void box() {
        range("2 sort", (x, v) -> x.sort(v, 20, 5), 0, 10, 3, 7, BAD);
        range("2 ohms", (x, v) -> x.sort(3, v, 5), 0, 7, 99, 7, BAD);
        range("2 ohms of a sort without", (x, v) -> x.sort(2, v, 5), 0, 0, 99, 0, BAD);
        range("2 spread", (x, v) -> x.sort(0, 20, v), 0, 10, 50, 10, BAD);
        range("2 spread of a sort without", (x, v) -> x.sort(2, 0, v), 0, 0, 50, 0, BAD);
        taken("2 least ohms of a part", (x, v) -> x.sort(0, v, 5), 1, 10);
        range("3 sort, ohms", (x, v) -> x.ofSort(v, 0), 0, 10, 3, 7, BAD);
        range("3 sort, spread", (x, v) -> x.ofSort(v, 1), 0, 5, 3, 0, BAD);
        range("3 sort, nets", (x, v) -> x.ofSort(v, 2), 0, 1, 3, 0, BAD);
        range("3 what", (x, v) -> x.ofSort(1, v), 0, 15, 2, 1, BAD);
    }

    private static void nets() {
        range("4 sort", (x, v) -> x.part(v), 0, 0, 3, 5, BAD);
        range("5 how", (x, v) -> x.join(v, 0, 1), 0, 2, 1, 3, BAD);
        range("5 first", (x, v) -> x.join(0, v, 1), 0, 2, 4, 5, BAD);
        range("5 second", (x, v) -> x.join(1, 0, v), 0, 5, 4, 5, BAD);
        range("6 id, kind", (x, v) -> x.net(v, 0), 0, 0, 4, 2, BAD);
        range("6 id, first", (x, v) -> x.net(v, 1), 0, 0, 4, 2, BAD);
        range("6 id, second", (x, v) -> x.net(v, 2), 0, WishedResistor.NOT, 4, 3, BAD);
        range("6 id, parts", (x, v) -> x.net(v, 3), 0, 1, 4, 4, BAD);
        range("6 id, in how many", (x, v) -> x.net(v, 4), 0, 2, 4, 0, BAD);
        range("6 what", (x, v) -> x.net(2, v), 0, 1, 4, 1, BAD);
        range("6 what, of a part", (x, v) -> x.net(1, v), 0, 0, 4, 2, BAD);
        range("12 one", (x, v) -> x.alike(v, 0), 0, 1, 4, 0, BAD);
        range("12 other", (x, v) -> x.alike(4, v), 0, 0, 4, 1, BAD);
        range("13 one", (x, v) -> x.turned(v, 0), 0, 1, 4, 0, BAD);
        range("13 other", (x, v) -> x.turned(4, v), 0, 0, 4, 1, BAD);
    }

    private static long bits(double number) {
        return Double.doubleToLongBits(number);
    }

    private static long bits(float number) {
        return Float.floatToIntBits(number);
    }

    private static void worth() {
        range("7 id", (x, v) -> x.value(v, 0), 0, 10, 4, 150, VOID);
        range("7 id, below", (x, v) -> x.value(v, 1), 0, 1, 4, 31, VOID);
        range("7 part", (x, v) -> x.value(4, v), 0, 150, 1, 31, VOID);
        double beside = (10.0 * 15.0) / (10.0 + 15.0);
        double all = (25.0 * beside) / (25.0 + beside);
        range("8 id", (x, v) -> x.ends(v, 2), 0, bits(10.0), 4, bits(all), VOID);
        range("8 what", (x, v) -> x.ends(0, v), 0, bits(950 / 100.0), 2, bits(10.0), VOID);
        taken("8 what", (x, v) -> x.ends(0, v), 1, bits(1050 / 100.0));
        float b = 1.0f / (1.0f / 10.0f + 1.0f / 15.0f);
        float a = 1.0f / (1.0f / 25.0f + 1.0f / b);
        range("9 id", (x, v) -> x.shortly(v), 0, bits(10.0f), 4, bits(a), VOID);
    }

    /** By z 0 the first draw has u -100, so a is 9.5. */
    private static void drawn() {
        Ask draw = (x, v) -> x.drawn(v, 0);
        taken("10 id", draw, 0, bits(10.0f + 10.0f * -500.0f / 10000.0f));
        taken("10 id", draw, 1, bits(15.0f + 15.0f * -1000.0f / 10000.0f));
        around("10 id", draw, 0, 4, VOID);
        range("11 id", (x, v) -> x.within(v, 0, 1, 10, 1, 99), 0, 1, 4, 1, BAD);
        range("11 m", (x, v) -> x.within(0, 7, v, 10, 1, 99), 1, 1, 30, 30, BAD);
        range("11 p", (x, v) -> x.within(0, 0, 5, v, 100, 99), 1, 0, 999, 5, BAD);
        range("11 q", (x, v) -> x.within(0, 0, 5, 10, v, 99), 1, 5, 999, 0, BAD);
        range("11 e", (x, v) -> x.within(0, 0, 1, 10, 1, v), 0, 0, 99, 1, BAD);
        taken("11 e, just enough", (x, v) -> x.within(0, 0, 1, 10, 1, v), 5, 1);
        taken("11 e, one too few", (x, v) -> x.within(0, 0, 1, 10, 1, v), 4, 0);
    }

    private static void failing() {
        range("14 id", (x, v) -> x.fails(v, 0, 1, 1), 0, 1, 4, 7, VOID);
        range("14 place", (x, v) -> x.fails(4, v, 0, 0), 0, 6, 3, 50, VOID);
        range("14 place of a part", (x, v) -> x.fails(1, v, 0, 0), 0, 1, 0, 1, VOID);
        range("14 how", (x, v) -> x.fails(4, 0, v, 1), 0, 1, 1, 7, VOID);
        range("14 part", (x, v) -> x.fails(4, 0, 1, v), 0, 30, 1, 7, VOID);
        range("15 id", (x, v) -> x.worst(v, 0), 0, 0, 4, 2, BAD);
        range("15 how", (x, v) -> x.worst(2, v), 0, 0, 1, 1, BAD);
    }

    private static void texts() {
        range("16 letter", (x, v) -> x.feed(v), 32, 4, 126, 4, BAD);
        range("18 id", (x, v) -> x.print(v, 0), 0, 'a', 4, '(', BAD);
        range("18 id, how many", (x, v) -> x.print(v, -1), 0, 1, 4, 13, BAD);
        range("18 id, none such", (x, v) -> x.print(v, 13), 0, WishedResistor.NOT, 4, WishedResistor.NOT, BAD);
        taken("18 least i", (x, v) -> x.print(2, v), -1, 5);
        taken("18 first i", (x, v) -> x.print(2, v), 0, '(');
        taken("18 last i", (x, v) -> x.print(2, v), 4, ')');
        int[] below = {-2, -3, -256, -252, -65536, LEAST, LEAST + 4};
        for (int i : below) {
            outside("18 i below -1", (x, v) -> x.print(2, v), i, BAD);
        }
        int[] none = {5, 6, 60, 256, 260, 65536, 65540, MOST};
        for (int i : none) {
            outside("18 no such i", (x, v) -> x.print(2, v), i, WishedResistor.NOT);
        }
    }

    private static Model model() {
        Model m = new Model();
        m.sort(0, 10, 5);
        m.sort(1, 15, 10);
        m.sort(3, 7, 0);
        return m;
    }

    private static void reached() {
        Model m = model();
        range("19 n", (x, v) -> x.reached(v), 1, 3, 4, m.reached(4), BAD);
        range("20 n", (x, v) -> x.reach(v, 0, 0), 1, 7, 4, m.reach(4, 0, 0), VOID);
        range("20 what", (x, v) -> x.reach(1, 2, v), 0, 15, 2, 1, VOID);
        taken("20 least k", (x, v) -> x.reach(1, v, 0), 0, 7);
        taken("20 greatest k", (x, v) -> x.reach(1, v, 0), 2, 15);
        int last = m.reached(4) - 1;
        taken("20 greatest k", (x, v) -> x.reach(4, v, 0), last, m.reach(4, last, 0));
        int[] below = {-1, -2, -254, -256, -65536, LEAST, LEAST + 1};
        for (int k : below) {
            outside("20 k below 0", (x, v) -> x.reach(1, v, 0), k, VOID);
        }
        int[] none = {3, 4, 256, 65536, MOST, MOST - 1};
        for (int k : none) {
            outside("20 no so many", (x, v) -> x.reach(1, v, 0), k, -2);
        }
        outside("20 no so many", (x, v) -> x.reach(4, v, 0), last + 1, -2);
        range("21 p", (x, v) -> x.fewest(v, 111), 1, WishedResistor.NOT, 999, m.fewest(9, 1), BAD);
        range("21 q", (x, v) -> x.fewest(777, v), 1, WishedResistor.NOT, 999, WishedResistor.NOT, BAD);
        taken("21 greatest q", (x, v) -> x.fewest(999, v), 999, m.fewest(1, 1));
        taken("21 in lowest terms", (x, v) -> x.fewest(v, 90), 900, 1);
    }

    private static void nearest() {
        Model m = model();
        range("22 p", (x, v) -> x.nearest(v, 1, 4, 0), 1, m.nearest(1, 1, 4, 0), 999, 60, VOID);
        range("22 q", (x, v) -> x.nearest(999, v, 4, 0), 1, 60, 999, m.nearest(1, 1, 4, 0), VOID);
        range("22 n", (x, v) -> x.nearest(999, 1, v, 0), 1, 15, 4, 60, VOID);
        range("22 what", (x, v) -> x.nearest(30, 2, 4, v), 0, 15, 2, 1, VOID);
        range("23 p", (x, v) -> x.make(v, 1), 1, WishedResistor.NOT, 999, WishedResistor.NOT, BAD);
        range("23 q", (x, v) -> x.make(10, v), 1, 0, 999, WishedResistor.NOT, BAD);
        taken("23 greatest p", (x, v) -> x.make(v, 999), 999, m.make(1, 1));
        taken("23 p", (x, v) -> x.make(v, 90), 900, 0);
    }

    private static void mesh() {
        range("24 n", (x, v) -> x.points(v), 2, 5, 6, 5, BAD);
        range("25 a", (x, v) -> x.edge(v, 1, 9), 0, 4, 4, 4, BAD);
        range("25 b", (x, v) -> x.edge(1, v, 9), 0, 4, 4, 4, BAD);
        range("25 ohms", (x, v) -> x.edge(4, 3, v), 1, 4, 99, 4, BAD);
        for (int point = 0; point < 5; point++) {
            outside("25 unlike points", (x, v) -> x.edge(v, v, 9), point, BAD);
        }
        range("26 edge", (x, v) -> x.tell(v, 9), 0, 10, 3, 0, BAD);
        range("26 ohms", (x, v) -> x.tell(1, v), 0, 5, 99, 5, BAD);
        range("31 a", (x, v) -> x.ways(v), 0, 7, 4, 16, BAD);
    }

    private static void between() {
        range("27 a", (x, v) -> x.between(v, 1, 0), 0, 6, 4, 1, VOID);
        range("27 b", (x, v) -> x.between(2, v, 0), 0, 11, 4, 1, VOID);
        range("27 part", (x, v) -> x.between(2, 0, v), 0, 11, 1, 1, VOID);
        range("28 edge", (x, v) -> x.without(v, 0, 2, 0), 0, 20, 3, 11, VOID);
        range("28 a", (x, v) -> x.without(0, v, 1, 0), 0, 15, 4, 1, VOID);
        range("28 b", (x, v) -> x.without(0, 2, v, 0), 0, 20, 4, 1, VOID);
        range("28 part", (x, v) -> x.without(0, 2, 0, v), 0, 20, 1, 1, VOID);
        range("29 a", (x, v) -> x.dearest(v, 2), 0, 1, 4, 0, BAD);
        range("29 b", (x, v) -> x.dearest(2, v), 0, 1, 4, 0, BAD);
        range("30 a", (x, v) -> x.bridges(v, 2), 0, 2, 4, WishedResistor.STATE, BAD);
        range("30 b", (x, v) -> x.bridges(2, v), 0, 2, 4, WishedResistor.STATE, BAD);
    }

    private static void trays() {
        range("32 tray", (x, v) -> x.tray(v, 0, 5), 0, 1, 2, 1, BAD);
        range("32 kind", (x, v) -> x.tray(0, v, 5), -1, 1, 2, 1, BAD);
        taken("32 least n", (x, v) -> x.tray(0, 2, v), 0, 1);
        taken("32 greatest n", (x, v) -> x.tray(0, 2, v), 20, 1);
        int[] above = {21, 22, 256, 276, 65536, MOST};
        for (int n : above) {
            outside("32 n above 20", (x, v) -> x.tray(0, 0, v), n, BAD);
        }
        int[] below = {-1, -2, -256, -250, -65536, LEAST, LEAST + 5};
        for (int n : below) {
            outside("32 n below 0", (x, v) -> x.tray(0, 0, v), n, SIZE);
        }
        int[] any = {-1, 0, 20, 21, LEAST, MOST};
        for (int n : any) {
            taken("32 missing: n doesn't matter", (x, v) -> x.tray(0, -1, v) * 100 + x.at(0, 0), n, 100 + MISSING);
        }
    }

    private static void places() {
        range("33 tray", (x, v) -> x.lay(v, 0, -1), 0, 1, 2, 1, BAD);
        range("33 id", (x, v) -> x.lay(0, 2, v), -1, 1, 4, 1, BAD);
        range("33 i", (x, v) -> x.lay(0, v, 3), 0, 1, 3, 1, OUTSIDE);
        range("34 tray", (x, v) -> x.at(v, 0), 0, 0, 2, 3, BAD);
        range("34 i", (x, v) -> x.at(0, v), 0, 0, 3, 4, OUTSIDE);
        range("34 i, none there", (x, v) -> x.at(1, v), 0, WishedResistor.NOT, 2, WishedResistor.NOT, OUTSIDE);
    }

    private static void shifted() {
        range("35 tray", (x, v) -> x.shift(v, 1, 0, 0, 1), 0, 1, 2, 1, BAD);
        range("35 other", (x, v) -> x.shift(1, 0, v, 0, 1), 0, 1, 2, 1, BAD);
        range("35 i", (x, v) -> x.shift(0, v, 0, 0, 1), 0, 1, 3, 1, OUTSIDE);
        range("35 j", (x, v) -> x.shift(0, 0, 0, v, 1), 0, 1, 3, 1, OUTSIDE);
        range("35 i of three", (x, v) -> x.shift(0, v, 0, 0, 3), 0, 3, 1, 3, OUTSIDE);
        range("35 j of three", (x, v) -> x.shift(1, 0, 0, v, 3), 0, 3, 1, 3, OUTSIDE);
        range("35 n, of its own size", (x, v) -> x.shift(1, 0, 0, 0, v), 0, 0, 3, 3, OUTSIDE);
        range("35 n, of the other's size", (x, v) -> x.shift(0, 2, 2, 0, v), 0, 0, 2, 2, OUTSIDE);
        range("35 n, from a place on", (x, v) -> x.shift(1, 2, 0, 0, v), 0, 0, 1, 1, OUTSIDE);
        range("35 n, to a place", (x, v) -> x.shift(1, 0, 0, 3, v), 0, 0, 1, 1, OUTSIDE);
    }

    private static void counts() {
        range("38 what", (x, v) -> x.count(v), 0, 5, 5, model().count(5), BAD);
        long[] due = {5, 3, 5, 4, 3};
        for (int what = 0; what < due.length; what++) {
            taken("38 what", (x, v) -> x.count(v), what, due[what]);
        }
    }
}
