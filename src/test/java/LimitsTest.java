/** What is empty, what is full: the least and the most that there may be of each thing, and what is told then. */
public final class LimitsTest {
    private static final Check CHECK = new Check("LimitsTest");
    private static final int BAD = WishedResistor.BAD, NOT = WishedResistor.NOT, FULL = WishedResistor.FULL;
    private static final int STATE = WishedResistor.STATE, LONG = WishedResistor.LONG;
    private static final long VOID = WishedResistor.VOID;
    private static final int MISSING = -11, OUTSIDE = -13;

    public static void main(String[] args) {
        sorts();
        ohms();
        noNets();
        parts();
        forty();
        users();
        emptyTape();
        fullTape();
        brackets();
        longestText();
        reachedLimits();
        farthest();
        twoPoints();
        sixPoints();
        noEdges();
        eightEdges();
        trays();
        wholeShift();
        draws();
        images();
        lastCall();
        CHECK.end();
    }

    private static void sorts() {
        WishedResistor x = new WishedResistor();
        for (int sort = 0; sort < 4; sort++) {
            CHECK.due("1 not there", x.part(sort), STATE);
            CHECK.due("38 sorts there", x.count(1), sort);
            CHECK.due("2 was not there", x.sort(sort, 99 - sort, 50), 0);
        }
        CHECK.due("38 all four sorts", x.count(1), 4);
        for (int sort = 0; sort < 4; sort++) {
            CHECK.due("2 was", x.sort(sort, 0, 0), 99 - sort);
            CHECK.due("2 spread 0", x.ofSort(sort, 1), 0);
            CHECK.due("38 sorts there", x.count(1), 3 - sort);
        }
        CHECK.due("38 an empty box", x.count(5), 0);
    }

    private static long bits(double number) {
        return Double.doubleToLongBits(number);
    }

    private static void ohms() {
        int[][] ends = {{1, 0}, {1, 50}, {99, 0}, {99, 50}};
        for (int[] e : ends) {
            WishedResistor x = new WishedResistor();
            x.sort(2, e[0], e[1]);
            int id = x.part(2);
            String name = " of " + e[0] + " ohms by " + e[1];
            CHECK.due("7 value" + name, x.value(id, 0), e[0]);
            CHECK.due("8 least" + name, x.ends(id, 0), bits(e[0] * (100 - e[1]) / 100.0));
            CHECK.due("8 greatest" + name, x.ends(id, 1), bits(e[0] * (100 + e[1]) / 100.0));
            CHECK.due("8 middle" + name, x.ends(id, 2), bits(e[0]));
            CHECK.due("9 shortly" + name, x.shortly(id), Float.floatToIntBits(e[0]));
            CHECK.due("19 reached" + name, x.reach(1, 0, 0), e[0]);
        }
        WishedResistor x = new WishedResistor();
        x.sort(0, 1, 50);
        x.part(0);
        CHECK.due("8 half an ohm", x.ends(0, 0), bits(0.5));
        x.sort(0, 99, 50);
        CHECK.due("8 148.5 ohms", x.ends(0, 1), bits(148.5));
    }

    /** The empty row of nets: each call that is given an ID. */
    private static void noNets() {
        for (int id = -1; id < 2; id++) {
            WishedResistor x = Check.box(10, 20);
            CHECK.due("6 none", x.net(id, 0), BAD);
            CHECK.due("7 none", x.value(id, 0), VOID);
            CHECK.due("8 none", x.ends(id, 0), VOID);
            CHECK.due("9 none", x.shortly(id), VOID);
            CHECK.due("10 none", x.drawn(id, 0), VOID);
            CHECK.due("11 none", x.within(id, 0, 1, 1, 1, 0), BAD);
            CHECK.due("12 none", x.alike(id, id), BAD);
            CHECK.due("13 none", x.turned(id, id), BAD);
            CHECK.due("14 none", x.fails(id, 0, 0, 0), VOID);
            CHECK.due("15 none", x.worst(id, 0), BAD);
            CHECK.due("18 none", x.print(id, -1), BAD);
            CHECK.due("5 none", x.join(0, id, id), BAD);
            CHECK.due("33 none, the tray is missing", x.lay(0, 0, id), id < 0 ? MISSING : BAD);
            CHECK.due("36 none", x.image(), 0);
            CHECK.due("37 none", x.back(), 0);
            CHECK.due("38 none", x.count(0), 0);
            CHECK.due("3 none", x.ofSort(0, 2), 0);
        }
    }

    private static void parts() {
        WishedResistor x = Check.box(1, 2);
        x.part(0);
        int three = x.join(0, x.join(0, 0, 0), 0);
        CHECK.due("6 three parts", x.net(three, 3), 3);
        int six = x.join(1, three, three);
        CHECK.due("6 of both twice as many", x.net(six, 3), 6);
        int twelve = x.join(0, six, six);
        CHECK.due("6 twelve of both", x.net(twelve, 3), 12);
        CHECK.due("7 twelve of both", x.value(twelve, 0), 3);
        int eleven = x.join(0, x.join(0, six, three), x.join(0, 0, 0));
        CHECK.due("6 eleven", x.net(eleven, 3), 11);
        CHECK.due("5 eleven and one", x.net(x.join(1, eleven, 0), 3), 12);
        CHECK.due("5 one and eleven", x.net(x.join(1, 0, eleven), 3), 12);
        CHECK.due("5 eleven and two", x.join(1, eleven, 1), LONG);
        CHECK.due("5 twelve and one", x.join(1, twelve, 0), LONG);
        CHECK.due("5 one and twelve", x.join(1, 0, twelve), LONG);
        CHECK.due("14 the last place", x.fails(twelve, 11, 1, 0), 27);
        CHECK.due("14 the last place, below", x.fails(twelve, 11, 1, 1), 10);
        CHECK.due("14 no 13th place", x.fails(twelve, 12, 1, 0), VOID);
        CHECK.due("15 of twelve", x.worst(twelve, 0), 0);
    }

    private static void forty() {
        WishedResistor x = new WishedResistor();
        World.full(x);
        CHECK.due("38 forty", x.count(0), 40);
        CHECK.due("36 forty", x.image(), 40);
        CHECK.due("6 the last", x.net(39, 0), 2);
        CHECK.due("6 no 41st", x.net(40, 0), BAD);
        CHECK.due("7 the last", x.value(39, 1) > 0 ? 1 : 0, 1);
        CHECK.due("7 no 41st", x.value(40, 0), VOID);
        CHECK.due("8 no 41st", x.ends(40, 0), VOID);
        CHECK.due("9 no 41st", x.shortly(40), VOID);
        CHECK.due("10 no 41st", x.drawn(40, 0), VOID);
        CHECK.due("11 no 41st", x.within(40, 0, 1, 1, 1, 0), BAD);
        CHECK.due("12 the last", x.alike(39, 39), 1);
        CHECK.due("12 no 41st", x.alike(40, 39), BAD);
        CHECK.due("13 the last", x.turned(39, 39), 1);
        CHECK.due("13 no 41st", x.turned(39, 40), BAD);
        CHECK.due("14 no 41st", x.fails(40, 0, 0, 0), VOID);
        CHECK.due("15 no 41st", x.worst(40, 0), BAD);
        CHECK.due("18 the last", x.print(39, 0), '(');
        CHECK.due("18 no 41st", x.print(40, 0), BAD);
        x.tray(0, 0, 1);
        CHECK.due("33 the last", x.lay(0, 0, 39), 1);
        CHECK.due("34 the last", x.at(0, 0), 39);
        CHECK.due("33 no 41st", x.lay(0, 0, 40), BAD);
        CHECK.due("4 no 41st", x.part(2), FULL);
        CHECK.due("37 forty", x.back(), 40);
        CHECK.due("37 the tray is missing again", x.at(0, 0), MISSING);
        WishedResistor y = new WishedResistor();
        World.nets(y, 39);
        CHECK.due("4 the 40th", y.part(3), 39);
        CHECK.due("4 no 41st", y.part(2), FULL);
        WishedResistor z = new WishedResistor();
        World.nets(z, 39);
        CHECK.due("5 the 40th", z.join(0, 12, 0), 39);
        CHECK.due("5 no 41st", z.join(0, 12, 12), FULL);
    }

    /** A net may be in all others; one in which it is both counts once. */
    private static void users() {
        WishedResistor x = Check.box(10, 20);
        x.part(0);
        CHECK.due("6 in none", x.net(0, 4), 0);
        x.join(0, 0, 0);
        CHECK.due("6 in one as both", x.net(0, 4), 1);
        x.join(1, 0, 0);
        CHECK.due("6 in two as both", x.net(0, 4), 2);
        x.join(0, 1, 0);
        x.join(0, 0, 1);
        CHECK.due("6 first, second", x.net(0, 4), 4);
        x.join(0, 1, 1);
        CHECK.due("6 far below doesn't count", x.net(0, 4), 4);
        CHECK.due("6 the last is in none", x.net(x.count(0) - 1, 4), 0);
        WishedResistor y = new WishedResistor();
        World.full(y);
        int users = 0;
        for (int id = 1; id < 40; id++) {
            users += y.net(id, 0) != 0 && (y.net(id, 1) == 0 || y.net(id, 2) == 0) ? 1 : 0;
        }
        CHECK.due("6 of forty", y.net(0, 4), users);
    }

    private static void emptyTape() {
        WishedResistor x = Check.box(10);
        CHECK.due("38 no bytes", x.count(4), 0);
        CHECK.due("17 the length, 0", x.read(), -100);
        CHECK.due("17 again", x.read(), -100);
        CHECK.due("16 the first byte", x.feed('a'), 1);
        CHECK.due("17 one byte", x.read(), 0);
        CHECK.due("17 empty behind it", x.read(), -100);
        CHECK.due("16 the first byte again", x.feed(' '), 1);
    }

    private static void fullTape() {
        for (int letter = 32; letter <= 126; letter += 94) {
            WishedResistor x = Check.box(10);
            for (int i = 1; i <= 60; i++) {
                CHECK.due("16 byte " + i, x.feed(letter), i);
            }
            CHECK.due("16 a 61st", x.feed(letter), FULL);
            CHECK.due("38 sixty", x.count(4), 60);
            CHECK.due("17 its first is the fault", x.read(), -100);
            CHECK.due("38 none", x.count(4), 0);
            CHECK.due("16 anew", x.feed('a'), 1);
            CHECK.due("17 a net", x.read(), 0);
        }
        WishedResistor y = Check.box(10);
        String text = "((a+a)|(a|(a+a)))";
        World.text(y, text);
        for (int i = text.length(); i < 60; i++) {
            y.feed('~');
        }
        CHECK.due("16 a 61st", y.feed(')'), FULL);
        CHECK.due("17 behind the text", y.read(), -100 - text.length());
        CHECK.due("17 nothing is kept", y.count(0), 0);
    }

    private static String times(String text, int many) {
        StringBuilder all = new StringBuilder();
        for (int i = 0; i < many; i++) {
            all.append(text);
        }
        return all.toString();
    }

    private static void brackets() {
        WishedResistor x = Check.box(10, 20);
        CHECK.due("17 eleven open, an early end", Check.read(x, times("(", 11)), -111);
        CHECK.due("17 a 12th", Check.read(x, times("(", 12)), -111);
        CHECK.due("17 sixty", Check.read(x, times("(", 60)), -111);
        CHECK.due("17 a 12th, and what comes behind it is wrong too", Check.read(x, times("(", 12) + "x"), -111);
        CHECK.due("17 eleven open, then what can't stand there", Check.read(x, times("(", 11) + "x"), -111);
        CHECK.due("17 eleven open from the left", x.net(Check.read(x, times("(", 11) + "a" + times("+b)", 11)), 3), 12);
        CHECK.due("17 eleven open at the right", x.net(Check.read(x, times("(a|", 11) + "b" + times(")", 11)), 3), 12);
        CHECK.due("17 a 12th ahead of a 13th part", Check.read(x, times("(a|", 12) + "b" + times(")", 12)), -100 - 33);
        // Ten stay open while one more comes and goes, then one more comes.
        String ten = times("(", 10);
        CHECK.due("17 one closed, one more", Check.read(x, ten + "(a+b)+(" + "("), -100 - 17);
        CHECK.due("17 one closed, just one more", Check.read(x, ten + "(a+b)+(" + "x"), -100 - 17);
    }

    private static void longestText() {
        WishedResistor x = Check.box(1, 2, 3, 4);
        String twelve = "((((a+b)|(c+d))+(a|b))|((c|d)+((a|a)|(b+b))))";
        CHECK.due("17 the longest text", twelve.length(), 45);
        int id = Check.read(x, twelve);
        CHECK.due("17 twelve parts", x.net(id, 3), 12);
        CHECK.due("18 how many", x.print(id, -1), 45);
        CHECK.due("18 the last", x.print(id, 44), ')');
        CHECK.due("18 none such", x.print(id, 45), NOT);
        CHECK.text("18 printed", Check.printed(x, id), twelve);
        CHECK.due("17 behind it", Check.read(x, twelve + "+"), -145);
        CHECK.due("17 one too few", Check.read(x, twelve.substring(0, 44)), -144);
        CHECK.due("17 again", Check.read(x, twelve), id);
        CHECK.due("18 a part: how many", x.print(0, -1), 1);
        CHECK.due("18 a part: no more", x.print(0, 1), NOT);
    }

    private static void reachedLimits() {
        WishedResistor x = Check.box(97, 89, 83, 79);
        Model m = new Model();
        for (int sort = 0; sort < 4; sort++) {
            m.sort(sort, x.ofSort(sort, 0), 0);
        }
        int all = 0;
        for (int n = 1; n <= 4; n++) {
            CHECK.due("19 as many as four sorts reach", x.reached(n), m.reached(n));
            all += x.reached(n);
            CHECK.due("20 the last", x.reach(n, x.reached(n) - 1, 0), n * 97);
            CHECK.due("20 no more", x.reach(n, x.reached(n), 0), -2);
        }
        CHECK.due("38 all", x.count(5), all);
        CHECK.due("20 the least by four", x.reach(4, 0, 0) * 4, x.reach(4, 0, 1) * 79);
        CHECK.due("38 one sort", Check.box(0, 0, 0, 1).count(5), 15);
    }

    private static void farthest() {
        WishedResistor x = Check.box(99);
        CHECK.due("22 to the greatest wish", x.nearest(999, 1, 4, 0), 396);
        CHECK.due("22 to the least wish, above", x.nearest(1, 999, 4, 0), 99);
        CHECK.due("22 to the least wish, below", x.nearest(1, 999, 4, 1), 4);
        WishedResistor y = Check.box(1);
        CHECK.due("22 to the greatest wish", y.nearest(999, 1, 4, 0), 4);
        CHECK.due("22 to the least wish", y.nearest(1, 999, 4, 1), 4);
        CHECK.due("21 by one", y.fewest(999, 999), 1);
        CHECK.due("21 by four", y.fewest(999, 333), 3);
        CHECK.due("23 by three", Check.read(y, "(a+(a+a))"), y.make(999, 333));
    }

    private static void twoPoints() {
        WishedResistor x = new WishedResistor();
        CHECK.due("24 four at first", x.points(2), 4);
        CHECK.due("25 between both", x.edge(1, 0, 99), 0);
        CHECK.due("25 no third", x.edge(0, 2, 1), BAD);
        CHECK.due("27 no third", x.between(2, 0, 0), VOID);
        CHECK.due("28 no third", x.without(0, 0, 2, 0), VOID);
        CHECK.due("29 no third", x.dearest(2, 0), BAD);
        CHECK.due("30 no third", x.bridges(0, 2), BAD);
        CHECK.due("31 no third", x.ways(2), BAD);
        CHECK.due("31 both", x.ways(1), 3);
        CHECK.due("30 the one", x.bridges(0, 1), 1);
        CHECK.due("24 two", x.points(6), 2);
    }

    private static void sixPoints() {
        WishedResistor x = new WishedResistor();
        x.points(6);
        for (int i = 0; i < 5; i++) {
            x.edge(i, i + 1, 99);
        }
        CHECK.due("27 from end to end", x.between(0, 5, 0), 495);
        CHECK.due("31 all six", x.ways(5), 63);
        CHECK.due("30 all five", x.bridges(5, 0), 31);
        CHECK.due("25 no seventh", x.edge(6, 0, 1), BAD);
        CHECK.due("27 no seventh", x.between(0, 6, 0), VOID);
        CHECK.due("28 no seventh", x.without(0, 6, 0, 0), VOID);
        CHECK.due("29 no seventh", x.dearest(0, 6), BAD);
        CHECK.due("30 no seventh", x.bridges(6, 0), BAD);
        CHECK.due("31 no seventh", x.ways(6), BAD);
        CHECK.due("24 six", x.points(6), 6);
    }

    private static void noEdges() {
        WishedResistor x = new WishedResistor();
        CHECK.due("38 no edges", x.count(3), 0);
        CHECK.due("26 no edges", x.tell(0, 1), BAD);
        CHECK.due("28 no edges", x.without(0, 0, 1, 0), VOID);
        CHECK.due("29 no edges", x.dearest(0, 3), NOT);
        CHECK.due("30 no edges", x.bridges(0, 3), STATE);
        CHECK.due("31 no edges", x.ways(3), 8);
        CHECK.due("27 no edges", x.between(0, 3, 0), 1);
        CHECK.due("27 no edges, below", x.between(0, 3, 1), 0);
        CHECK.due("27 itself", x.between(3, 3, 0), 0);
        CHECK.due("27 itself, below", x.between(3, 3, 1), 1);
    }

    private static void eightEdges() {
        WishedResistor x = new WishedResistor();
        x.points(6);
        for (int i = 0; i < 7; i++) {
            CHECK.due("25 number", x.edge(0, 1, 70), i);
        }
        CHECK.due("25 the eighth", x.edge(1, 2, 5), 7);
        CHECK.due("25 no ninth", x.edge(1, 2, 5), FULL);
        CHECK.due("38 eight", x.count(3), 8);
        CHECK.due("27 seven beside, one more", x.between(0, 2, 0), 15);
        CHECK.due("30 the eighth", x.bridges(0, 2), 128);
        CHECK.due("29 the eighth", x.dearest(0, 2), 7);
        CHECK.due("28 the eighth", x.without(7, 0, 2, 1), 0);
        CHECK.due("28 no ninth", x.without(8, 0, 2, 1), VOID);
        CHECK.due("26 the eighth", x.tell(7, 99), 5);
        CHECK.due("26 no ninth", x.tell(8, 9), BAD);
        x.tell(0, 0);
        CHECK.due("38 open ones, too", x.count(3), 8);
        CHECK.due("25 open ones count", x.edge(3, 4, 5), FULL);
        x.points(6);
        CHECK.due("25 anew", x.edge(3, 4, 5), 0);
    }

    private static void trays() {
        WishedResistor x = Check.box(10);
        x.part(0);
        for (int tray = 0; tray < 3; tray++) {
            CHECK.due("1 missing", x.at(tray, 0), MISSING);
            CHECK.due("32 no places", x.tray(tray, 0, 0), 1);
            CHECK.due("34 no places", x.at(tray, 0), OUTSIDE);
            CHECK.due("33 no places", x.lay(tray, 0, 0), OUTSIDE);
            CHECK.due("33 no places for none", x.lay(tray, 0, -1), OUTSIDE);
            CHECK.due("35 no places", x.shift(tray, 0, tray, 0, 1), OUTSIDE);
            CHECK.due("35 nothing of no places", x.shift(tray, 0, tray, 0, 0), 0);
            CHECK.due("32 one place", x.tray(tray, 0, 1), 1);
            CHECK.due("33 one place", x.lay(tray, 0, 0), 1);
            CHECK.due("33 no second", x.lay(tray, 1, 0), OUTSIDE);
            CHECK.due("32 twenty", x.tray(tray, 1, 20), 1);
            CHECK.due("32 all none", x.at(tray, 0), NOT);
            CHECK.due("33 the last", x.lay(tray, 19, 0), 1);
            CHECK.due("34 the last", x.at(tray, 19), 0);
            CHECK.due("33 no 21st", x.lay(tray, 20, 0), OUTSIDE);
            CHECK.due("34 no 21st", x.at(tray, 20), OUTSIDE);
            CHECK.due("32 no 21st", x.tray(tray, 1, 21), BAD);
            CHECK.due("34 as it was", x.at(tray, 19), 0);
            CHECK.due("32 missing", x.tray(tray, -1, 20), 1);
            CHECK.due("34 missing", x.at(tray, 19), MISSING);
            CHECK.due("32 twenty again", x.tray(tray, 2, 20), 1);
            CHECK.due("32 all none again", x.at(tray, 19), NOT);
        }
    }

    /** Full trays, all of which come to another, and one further in their own. */
    private static void wholeShift() {
        WishedResistor x = new WishedResistor();
        World.nets(x, 30);
        x.tray(0, 0, 20);
        x.tray(1, 0, 20);
        for (int i = 0; i < 20; i++) {
            x.lay(0, i, i);
        }
        CHECK.due("35 all", x.shift(0, 0, 1, 0, 20), 20);
        CHECK.due("35 one too many", x.shift(0, 0, 1, 0, 21), OUTSIDE);
        CHECK.due("35 one too far", x.shift(0, 0, 1, 1, 20), OUTSIDE);
        CHECK.due("35 from one too far", x.shift(0, 1, 1, 0, 20), OUTSIDE);
        CHECK.due("35 one further", x.shift(1, 0, 1, 1, 19), 19);
        CHECK.due("35 one back", x.shift(0, 1, 0, 0, 19), 19);
        CHECK.due("35 onto itself", x.shift(0, 0, 0, 0, 20), 20);
        for (int i = 0; i < 20; i++) {
            CHECK.due("35 one further, place " + i, x.at(1, i), i == 0 ? 0 : i - 1);
            CHECK.due("35 one back, place " + i, x.at(0, i), i == 19 ? 19 : i + 1);
        }
        CHECK.due("35 the last", x.shift(0, 19, 1, 19, 1), 1);
        CHECK.due("34 the last", x.at(1, 19), 19);
    }

    private static int z;

    private static float draw(int ohms, int spread) {
        z = z * 1103515245 + 12345;
        int u = (z >>> 16) % 201 - 100;
        return ohms + ohms * (float) (spread * u) / 10000.0f;
    }

    /** z wraps around; u comes to both its ends, so a part comes to both ends of its spread. */
    private static void draws() {
        WishedResistor x = new WishedResistor();
        x.sort(0, 10, 50);
        x.part(0);
        int least = Integer.MAX_VALUE;
        int most = 0;
        int[] seeds = {Integer.MAX_VALUE, Integer.MIN_VALUE, -1, 0, 1, 0x7fffffff / 3, 1 << 16, -(1 << 16), (1 << 16) - 1};
        for (int seed : seeds) {
            z = seed;
            CHECK.due("10 z " + seed, x.drawn(0, seed), Float.floatToIntBits(draw(10, 50)));
        }
        for (int seed = 0; seed < 400; seed++) {
            z = seed * 1000003;
            int due = Float.floatToIntBits(draw(10, 50));
            int got = (int) x.drawn(0, seed * 1000003);
            CHECK.due("10 z " + seed, got, due);
            least = Math.min(least, got);
            most = Math.max(most, got);
        }
        CHECK.due("10 least of all", least, Float.floatToIntBits(5.0f));
        CHECK.due("10 greatest of all", most, Float.floatToIntBits(15.0f));
        CHECK.due("11 thirty", x.within(0, 9, 30, 10, 1, 50), 30);
        CHECK.due("11 one", x.within(0, 9, 1, 10, 1, 50), 1);
    }

    private static void images() {
        WishedResistor x = new WishedResistor();
        CHECK.due("37 none at first", x.back(), STATE);
        CHECK.due("36 of a new object", x.image(), 0);
        World.untaped(x);
        CHECK.due("36 the last one counts", x.image(), 5);
        x.points(2);
        x.tray(0, -1, 0);
        CHECK.due("37 back", x.back(), 5);
        CHECK.due("37 back again", x.back(), 5);
        CHECK.due("37 points", x.count(2), 5);
        CHECK.due("37 edges", x.count(3), 4);
        CHECK.due("37 tray", x.at(0, 3), 4);
    }

    /** An object is used for 512 calls; the last of them is answered as the first. */
    private static void lastCall() {
        WishedResistor x = new WishedResistor();
        World.full(x);
        // Four sorts, 13 nets, and each of 27 more asked for once ahead of it, and once when all are there.
        int calls = 4 + 13 + 2 * 27 + 1;
        for (int i = calls; i < 511; i++) {
            CHECK.due("38 forty", x.count(0), 40);
        }
        CHECK.due("17 the 512th call", x.read(), -100);
        WishedResistor y = new WishedResistor();
        for (int i = 0; i < 511; i++) {
            CHECK.due("2 call " + i, y.sort(0, 1 + i % 99, i % 51), i == 0 ? 0 : 1 + (i - 1) % 99);
        }
        CHECK.due("7 the 512th call", y.part(0), 0);
    }
}
