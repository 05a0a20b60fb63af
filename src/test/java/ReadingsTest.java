/** Each sentence by which the document settles what could be read two ways, and each edge that its terms name. */
public final class ReadingsTest {
    private static final Check CHECK = new Check("ReadingsTest");
    private static final int BAD = WishedResistor.BAD, NOT = WishedResistor.NOT, FULL = WishedResistor.FULL;
    private static final int STATE = WishedResistor.STATE, LONG = WishedResistor.LONG;
    private static final int MISSING = -11, KIND = -12, OUTSIDE = -13;

    public static void main(String[] args) {
        onceOfAKind();
        otherWayAbout();
        twiceAsMany();
        sortOfAPart();
        longAheadOfFull();
        otherOhms();
        endsByInts();
        drawnTwice();
        goesOn();
        exactlyWithin();
        openAndShort();
        firstPlace();
        otherSorts();
        byteByByte();
        thirteenth();
        twelfth();
        faultFirst();
        readThere();
        tapeEmpty();
        tapeStays();
        brackets();
        likeOhms();
        asTheyCame();
        notByFewer();
        boxAsItIs();
        inAnyOrder();
        noneAsALong();
        likeNear();
        nearestOfGreat();
        madeSo();
        pointsAnew();
        severalEdges();
        openEdges();
        offTheWay();
        dearest();
        itself();
        kinds();
        shiftOrder();
        aheadOfIt();
        imageOfAll();
        withoutTape();
        CHECK.end();
    }

    private static int read(WishedResistor x, String text) {
        return Check.read(x, text);
    }

    private static void fraction(String call, WishedResistor x, int id, long above, long below) {
        CHECK.due(call + " above", x.value(id, 0), above);
        CHECK.due(call + " below", x.value(id, 1), below);
    }

    /** What is made anew and is there already is that one. */
    private static void onceOfAKind() {
        WishedResistor x = Check.box(10, 10, 12);
        CHECK.due("a part", x.part(0), 0);
        CHECK.due("of another sort of like ohms", x.part(1), 1);
        CHECK.due("a series", x.join(0, 0, 1), 2);
        CHECK.due("a beside", x.join(1, 0, 1), 3);
        CHECK.due("the part again", x.part(0), 0);
        CHECK.due("the series again", x.join(0, 0, 1), 2);
        CHECK.due("the beside again", x.join(1, 0, 1), 3);
        x.sort(0, 11, 7);
        CHECK.due("the part again, by other ohms", x.part(0), 0);
        CHECK.due("the series again, by a text", read(x, "(a+b)"), 2);
        CHECK.due("a series of like parts is another", x.join(0, 0, 0), 4);
        CHECK.due("nets", x.count(0), 5);
    }

    /** FIRST and SECOND the other way about make another NET. */
    private static void otherWayAbout() {
        WishedResistor x = Check.box(10, 20);
        int ab = read(x, "(a+b)");
        int ba = read(x, "(b+a)");
        CHECK.due("another net", ab != ba ? 1 : 0, 1);
        CHECK.due("another of a beside", x.join(1, ab, ba) != x.join(1, ba, ab) ? 1 : 0, 1);
        CHECK.due("first of the one", x.net(ab, 1), x.net(ba, 2));
        CHECK.due("of like value", x.alike(ab, ba), 1);
        CHECK.due("turned", x.turned(ab, ba), 1);
        CHECK.text("printed", Check.printed(x, ab) + Check.printed(x, ba), "(a+b)(b+a)");
    }

    /** Its PARTS: one of a NET that is both FIRST and SECOND counts twice; in how many: one in which it is both counts once. */
    private static void twiceAsMany() {
        WishedResistor x = Check.box(10);
        int two = x.join(0, x.part(0), 0);
        int four = x.join(1, two, two);
        CHECK.due("two", x.net(two, 3), 2);
        CHECK.due("four", x.net(four, 3), 4);
        CHECK.due("in one as both", x.net(two, 4), 1);
        x.join(0, two, 0);
        CHECK.due("in two", x.net(two, 4), 2);
        CHECK.due("of the part: the two, and that of three", x.net(0, 4), 2);
    }

    /** net(id, 1) of a PART: its SORT. */
    private static void sortOfAPart() {
        WishedResistor x = Check.box(10, 20, 30, 40);
        for (int sort = 3; sort >= 0; sort--) {
            CHECK.due("id", x.part(sort), 3 - sort);
            CHECK.due("its sort", x.net(3 - sort, 1), sort);
            CHECK.due("no second", x.net(3 - sort, 2), NOT);
            CHECK.due("in no net", x.net(3 - sort, 4), 0);
        }
        // 0 is the ID of d and the sort a: only the join has net 0 in it.
        x.join(0, 1, 1);
        CHECK.due("its sort is no ID", x.net(0, 4), 0);
    }

    /** join(): LONG ahead of FULL; a NET that is there is told though 40 are. */
    private static void longAheadOfFull() {
        WishedResistor x = new WishedResistor();
        World.full(x);
        CHECK.due("13 parts, as the 41st", x.join(0, 11, 0), LONG);
        CHECK.due("12 parts, as the 41st", x.join(1, 10, 12), FULL);
        CHECK.due("12 parts, there", x.join(0, 10, 0), 11);
        CHECK.due("there", x.join(1, 0, 0), 13);
    }

    /** A SORT with other OHMS changes what NETS are worth. */
    private static void otherOhms() {
        WishedResistor x = Check.box(10, 15);
        int net = read(x, "(a|b)");
        fraction("as they were", x, net, 6, 1);
        CHECK.due("2 was", x.sort(1, 40, 50), 15);
        fraction("by other ohms", x, net, 8, 1);
        CHECK.due("by other ohms, middle", x.ends(net, 2), Double.doubleToLongBits((10.0 * 40.0) / (10.0 + 40.0)));
        CHECK.due("by other spread, least", x.ends(net, 0), Double.doubleToLongBits((10.0 * 20.0) / (10.0 + 20.0)));
        CHECK.due("by other ohms, shortly", x.shortly(net), Float.floatToIntBits(1.0f / (1.0f / 10.0f + 1.0f / 40.0f)));
        CHECK.due("by other ohms, a failing", x.fails(net, 0, 0, 0), 40);
        CHECK.due("by other ohms, the worst", x.worst(net, 0), 0);
        CHECK.due("the net is the same", read(x, "(a|b)"), net);
        CHECK.due("by other ohms, reached", x.fewest(8, 1), 2);
        CHECK.due("by other ohms, by more", x.fewest(25, 1), 4);
    }

    /** What stands ahead of the / is an int. */
    private static void endsByInts() {
        for (int ohms = 1; ohms <= 99; ohms += 7) {
            for (int spread = 0; spread <= 50; spread++) {
                WishedResistor x = new WishedResistor();
                x.sort(0, ohms, spread);
                x.part(0);
                CHECK.due("least", x.ends(0, 0), Double.doubleToLongBits((ohms * 100 - ohms * spread) / 100.0));
                CHECK.due("greatest", x.ends(0, 1), Double.doubleToLongBits((ohms * 100 + ohms * spread) / 100.0));
                CHECK.due("middle", x.ends(0, 2), Double.doubleToLongBits(ohms));
            }
        }
    }

    private static int z;

    private static float draw(int ohms, int spread) {
        z = z * 1103515245 + 12345;
        int u = (z >>> 16) % 201 - 100;
        int whole = spread * u;
        float part = (float) ohms * (float) whole;
        return (float) ohms + part / 10000.0f;
    }

    /** A NET that is both is drawn twice; all of FIRST, then all of SECOND. */
    private static void drawnTwice() {
        WishedResistor x = new WishedResistor();
        x.sort(0, 33, 50);
        x.sort(1, 71, 20);
        int ab = read(x, "(a+b)");
        int both = x.join(0, ab, ab);
        z = 77;
        float left = draw(33, 50);
        left = left + draw(71, 20);
        float right = draw(33, 50);
        right = right + draw(71, 20);
        CHECK.due("both are not alike", left != right ? 1 : 0, 1);
        CHECK.due("drawn twice", x.drawn(both, 77), Float.floatToIntBits(left + right));
        z = 77;
        float b = draw(71, 20);
        CHECK.due("from the left", x.drawn(read(x, "(b+a)"), 77), Float.floatToIntBits(b + draw(33, 50)));
    }

    /** within(): z goes on from one draw to the next. */
    private static void goesOn() {
        WishedResistor x = new WishedResistor();
        x.sort(0, 40, 50);
        x.sort(1, 40, 50);
        int net = read(x, "(a+b)");
        int before = 0;
        int more = 0;
        for (int m = 1; m <= 30; m++) {
            z = -5;
            int due = 0;
            for (int i = 0; i < m; i++) {
                float off = draw(40, 50);
                off = off + draw(40, 50) - 80.0f;
                off = off < 0.0f ? 0.0f - off : off;
                due += off * 100.0f <= 80.0f * 10.0f ? 1 : 0;
            }
            int got = x.within(net, -5, m, 80, 1, 10);
            CHECK.due("of " + m, got, due);
            more += got > before ? 1 : 0;
            before = got;
        }
        CHECK.due("some are, some are not", more > 0 && more < 30 ? 1 : 0, 1);
        CHECK.due("the next call begins anew", x.within(net, -5, 30, 80, 1, 10), before);
    }

    /** d * 100 is at most w * e: just as much is within, on both sides. */
    private static void exactlyWithin() {
        WishedResistor x = Check.box(25, 75);
        x.part(0);
        x.part(1);
        CHECK.due("half of it below", x.within(0, 0, 1, 50, 1, 50), 1);
        CHECK.due("half of it below, one too few", x.within(0, 0, 1, 50, 1, 49), 0);
        CHECK.due("half of it above", x.within(1, 0, 1, 50, 1, 50), 1);
        CHECK.due("half of it above, one too few", x.within(1, 0, 1, 50, 1, 49), 0);
        CHECK.due("just it, by none", x.within(0, 0, 1, 50, 2, 0), 1);
        CHECK.due("of a wish that is no whole number", x.within(0, 0, 1, 999, 40, 0), 0);
        CHECK.due("of a wish that is no whole number, by one", x.within(0, 0, 1, 999, 40, 1), 1);
    }

    private static void failing(String call, WishedResistor x, int id, int place, int how, long above, long below) {
        CHECK.due(call + " above", x.fails(id, place, how, 0), above);
        CHECK.due(call + " below", x.fails(id, place, how, 1), below);
    }

    /** A SERIES with a 1 by 0 is 1 by 0; a BESIDE with a 0 by 1 is 0 by 1, else with a 1 by 0 as the other one. */
    private static void openAndShort() {
        WishedResistor x = Check.box(10, 15, 20);
        int part = x.part(2);
        failing("a part OPEN", x, part, 0, 0, 1, 0);
        failing("a part SHORT", x, part, 0, 1, 0, 1);
        int series = read(x, "((a+b)+c)");
        for (int place = 0; place < 3; place++) {
            failing("a series OPEN", x, series, place, 0, 1, 0);
            failing("a series SHORT", x, series, place, 1, new int[] {35, 30, 25}[place], 1);
        }
        int beside = read(x, "(a|(b|c))");
        for (int place = 0; place < 3; place++) {
            failing("a beside SHORT", x, beside, place, 1, 0, 1);
        }
        failing("a beside, the first OPEN", x, beside, 0, 0, 60, 7);
        failing("a beside, the second OPEN", x, beside, 1, 0, 20, 3);
        failing("a beside, the third OPEN", x, beside, 2, 0, 6, 1);
        int mixed = read(x, "((a+b)|(c+(a|b)))");
        failing("a series that is 1 by 0, beside another", x, mixed, 0, 0, 26, 1);
        failing("another beside a series that is 1 by 0", x, mixed, 2, 0, 25, 1);
        failing("a beside that is 0 by 1, in series", x, mixed, 3, 1, 100, 9);
        int last = read(x, "(c+((a+b)|c))");
        failing("a series in which a beside is as the other one", x, last, 1, 0, 40, 1);
        failing("a series in which the part is 1 by 0", x, last, 0, 0, 1, 0);
        failing("a series in which a beside is 0 by 1", x, last, 3, 1, 20, 1);
    }

    /** worst(): of like ones the first PLACE; 1 by 0 is greater than all else. */
    private static void firstPlace() {
        WishedResistor x = Check.box(10, 20, 10);
        CHECK.due("two alike, OPEN", x.worst(read(x, "(b|(a|(c|b)))"), 0), 1);
        CHECK.due("two alike, SHORT", x.worst(read(x, "(a+(b+(c+b)))"), 1), 1);
        CHECK.due("two 1 by 0", x.worst(read(x, "((b|b)+(a+c))"), 0), 2);
        CHECK.due("two 0 by 1", x.worst(read(x, "((a+b)|(c|a))"), 1), 2);
        CHECK.due("all 1 by 0", x.worst(read(x, "(a+(b+c))"), 0), 0);
        CHECK.due("all 0 by 1", x.worst(read(x, "(b|(a|c))"), 1), 0);
        CHECK.due("a part OPEN", x.worst(x.part(1), 0), 0);
        CHECK.due("a part SHORT", x.worst(x.part(1), 1), 0);
        CHECK.due("the last alone, OPEN", x.worst(read(x, "((b|b)+((b|b)+a))"), 0), 4);
        CHECK.due("the last alone, SHORT", x.worst(read(x, "((b+b)|((b+b)|a))"), 1), 4);
    }

    /** turned(): PARTS of other SORTS are not the same, even of like OHMS. */
    private static void otherSorts() {
        WishedResistor x = Check.box(10, 10, 10);
        x.part(0);
        x.part(1);
        CHECK.due("parts", x.turned(0, 1), 0);
        CHECK.due("parts are of like value", x.alike(0, 1), 1);
        CHECK.due("joins", x.turned(read(x, "(a+c)"), read(x, "(b+c)")), 0);
        CHECK.due("joins, turned", x.turned(read(x, "(a+c)"), read(x, "(c+b)")), 0);
        CHECK.due("the same, turned", x.turned(read(x, "(a+c)"), read(x, "(c+a)")), 1);
        CHECK.due("a part and a join", x.turned(0, read(x, "(a+a)")), 0);
        CHECK.due("other kinds", x.turned(read(x, "(a+a)"), read(x, "(a|a)")), 0);
        CHECK.due("a net and itself", x.turned(2, 2), 1);
        CHECK.due("each turned by itself", x.turned(read(x, "((a+b)|(b+c))"), read(x, "((c+b)|(a+b))")), 1);
        CHECK.due("one left over", x.turned(read(x, "((a+b)|(a+b))"), read(x, "((a+b)|(b+b))")), 0);
        CHECK.due("brackets elsewhere", x.turned(read(x, "((a|b)|c)"), read(x, "(a|(b|c))")), 0);
    }

    /** A TEXT is looked at byte by byte: what can't stand there is the FAULT, whatever comes behind it. */
    private static void byteByByte() {
        String[] beginnings = {"", "(", "(a", "(a+", "(a+b", "(a+b)", "a", "((a|b)", "((a|b)+", "((a|b)+d", "((a|b)+d)"};
        String[] goOn = {"(abd", "(abd", "+|", "(abd", ")", "", "", "+|", "(abd", ")", ""};
        for (int i = 0; i < beginnings.length; i++) {
            String begin = beginnings[i];
            for (char letter = 32; letter <= 126; letter++) {
                if (goOn[i].indexOf(letter) < 0) {
                    WishedResistor x = Check.box(10, 20, 0, 40);
                    String behind = letter % 2 == 0 ? "+b)" : "";
                    CHECK.due("behind " + begin + ": " + letter, read(x, begin + letter + behind), -100 - begin.length());
                    CHECK.due("nothing is kept", x.count(0), 0);
                }
            }
            if (!goOn[i].isEmpty()) {
                WishedResistor x = Check.box(10, 20, 0, 40);
                CHECK.due("too early an end: " + begin, read(x, begin), -100 - begin.length());
            }
        }
    }

    /** A 13th PART at its letter. */
    private static void thirteenth() {
        WishedResistor x = Check.box(10, 20);
        String twelve = "((((a+b)+(a+b))+((a+b)+(a+b)))+((a+b)+(a+b)))";
        CHECK.due("twelve", x.net(read(x, twelve), 3), 12);
        int length = twelve.length();
        CHECK.due("a 13th from the right", read(x, "(" + twelve + "|a)"), -100 - length - 2);
        String[] behind = {"a", "a)", "ax", "c", "((a", "((c", "((+"};
        int[] fault = {0, 0, 0, 0, 2, 2, 2};
        for (int i = 0; i < behind.length; i++) {
            x = Check.box(10, 20);
            CHECK.due("a 13th: " + behind[i], read(x, "(" + twelve + "+" + behind[i]), -100 - length - 2 - fault[i]);
        }
        CHECK.due("an end ahead of a 13th", read(Check.box(10, 20), "(" + twelve + "+"), -100 - length - 2);
        CHECK.due("an end behind brackets", read(Check.box(10, 20), "(" + twelve + "+(("), -100 - length - 4);
    }

    /** A 12th open bracket at its place. */
    private static void twelfth() {
        WishedResistor x = Check.box(10, 20);
        String eleven = "(((((((((((";
        CHECK.due("a 12th open", read(x, eleven + "(a"), -111);
        CHECK.due("eleven open", read(x, eleven + "a"), -112);
        CHECK.due("a 12th open, later", read(x, eleven + "a+(b"), -113);
        CHECK.due("eleven open, one closed, one more", read(x, eleven + "a+b)+(c"), -100 - 17);
        CHECK.due("eleven open, one closed, two more", read(x, eleven + "a+b)+((a"), -100 - 17);
    }

    /** read(): the FAULT is looked at first, then FULL. */
    private static void faultFirst() {
        WishedResistor x = new WishedResistor();
        World.full(x);
        CHECK.due("a fault at the end", read(x, "(c+d"), -104);
        CHECK.due("a fault behind it", read(x, "(c+d))"), -105);
        CHECK.due("a fault behind what would be there", read(x, "(a+a)a"), -105);
        CHECK.due("no fault", read(x, "(c+d)"), FULL);
        WishedResistor y = new WishedResistor();
        World.nets(y, 39);
        CHECK.due("a fault keeps nothing", read(y, "(c+d"), -104);
        CHECK.due("nets", y.count(0), 39);
        CHECK.due("FULL keeps the first", read(y, "(c+d)"), FULL);
        CHECK.due("nets", y.count(0), 40);
    }

    /** read(): what is there already is used though 40 NETS are; FULL as soon as a new one would be the 41st, what was kept stays. */
    private static void readThere() {
        WishedResistor x = new WishedResistor();
        World.full(x);
        String[] texts = {"a", "(a+a)", "((a+a)+a)", "b", "(a|a)", "((a+a)|a)"};
        int[] ids = {0, 1, 2, 12, 13, 14};
        for (int i = 0; i < texts.length; i++) {
            CHECK.due("there: " + texts[i], read(x, texts[i]), ids[i]);
        }
        CHECK.due("a new one of what is there", read(x, "(a+b)"), FULL);
        CHECK.due("nets", x.count(0), 40);
        WishedResistor y = new WishedResistor();
        World.nets(y, 38);
        CHECK.due("two come, the third doesn't", read(y, "(a+((b+b)|(b+a)))"), FULL);
        CHECK.text("the first of them", Check.printed(y, 38), "(b+b)");
        CHECK.text("the second of them", Check.printed(y, 39), "(b+a)");
        CHECK.due("there is no third", y.net(40, 0), BAD);
        CHECK.due("they are used", read(y, "(b+a)"), 39);
    }

    /** THE TAPE is empty behind each call that reads it, by a FAULT and by all that is refused behind its text, too. */
    private static void tapeEmpty() {
        WishedResistor x = new WishedResistor();
        World.full(x);
        String[] texts = {"a", "(a+a)", "(a+", "x", "", "c", "(c|d)", "(a|a))"};
        int[] due = {0, 1, -103, -100, -100, FULL, FULL, -105};
        for (int i = 0; i < texts.length; i++) {
            CHECK.due("read " + texts[i], read(x, texts[i]), due[i]);
            CHECK.due("empty behind it", x.count(4), 0);
            CHECK.due("the next byte is the first", x.feed('b'), 1);
            CHECK.due("and read alone", x.read(), 12);
        }
    }

    /** It stays where nothing else is said: by each other call, and by a byte that is refused. */
    private static void tapeStays() {
        WishedResistor x = new WishedResistor();
        World.some(x);
        x.sort(0, 11, 5);
        x.part(3);
        x.join(0, 0, 0);
        x.make(11, 1);
        x.points(3);
        x.edge(0, 1, 5);
        x.tray(0, 0, 3);
        x.lay(0, 0, 0);
        x.shift(0, 0, 0, 1, 1);
        x.image();
        x.back();
        CHECK.due("a byte that is refused", x.feed(127), BAD);
        CHECK.due("three bytes", x.count(4), 3);
        x.feed('b');
        x.feed(')');
        CHECK.due("what stood there", x.read(), 2);
        WishedResistor y = new WishedResistor();
        World.tape(y);
        CHECK.due("a full tape refuses a byte", y.feed(')'), FULL);
        CHECK.due("sixty bytes", y.count(4), 60);
        CHECK.due("as they were", y.read(), -104);
    }

    /** PRINTED: each SERIES, BESIDE has its brackets. */
    private static void brackets() {
        WishedResistor x = Check.box(1, 2, 3, 4);
        String[] texts = {"a", "b", "c", "d", "(a+b)", "(a|b)", "((a+b)+c)", "(a+(b+c))", "((a|b)|c)", "(a|(b|c))", "((a+b)|(c+d))"};
        for (String text : texts) {
            int id = read(x, text);
            CHECK.text("printed", Check.printed(x, id), text);
            CHECK.due("how many", x.print(id, -1), text.length());
            CHECK.due("no more", x.print(id, text.length()), NOT);
        }
        x.sort(0, 99, 50);
        CHECK.text("printed by other ohms", Check.printed(x, 4), "(a+b)");
    }

    /** REACHED by 1: two SORTS of like OHMS are one value, MADE of the first of them. */
    private static void likeOhms() {
        WishedResistor x = Check.box(0, 12, 5, 12);
        CHECK.due("two values", x.reached(1), 2);
        CHECK.due("of three sorts", x.count(1), 3);
        CHECK.text("made of the first", Check.printed(x, x.make(12, 1)), "b");
        CHECK.text("so are those of more", Check.printed(x, x.make(24, 1)), "(b+b)");
        CHECK.due("none of the other", x.ofSort(3, 2), 0);
        x.sort(1, 0, 0);
        CHECK.due("a sort that has a part stays", x.ofSort(1, 0), 12);
        WishedResistor y = Check.box(7, 7, 7, 7);
        CHECK.due("one value of four sorts", y.reached(1), 1);
        CHECK.due("as many as of one sort", y.count(5), 15);
    }

    /** reach(): what 2 counts among those by n PARTS and no fewer alone, from 0, as they came. */
    private static void asTheyCame() {
        WishedResistor x = Check.box(30, 10, 20);
        long[][] one = {{10, 1, 1}, {20, 1, 2}, {30, 1, 0}};
        // 30 with 30, 10, 20: 60, 15, 40, 15/2, 50, 12; then 10 with 10, 20: 5, 20/3; then 20 with 20: nothing new.
        long[][] two = {{5, 1, 6}, {20, 3, 7}, {15, 2, 3}, {12, 1, 5}, {15, 1, 1}, {40, 1, 2}, {50, 1, 4}, {60, 1, 0}};
        CHECK.due("by one", x.reached(1), one.length);
        CHECK.due("by two", x.reached(2), two.length);
        for (int what = 0; what < 3; what++) {
            for (int k = 0; k < one.length; k++) {
                CHECK.due("by one, the " + k, x.reach(1, k, what), one[k][what]);
            }
            for (int k = 0; k < two.length; k++) {
                CHECK.due("by two, the " + k, x.reach(2, k, what), two[k][what]);
            }
        }
        int many = x.reached(4);
        int seen = 0;
        for (int k = 0; k < many && k < 400; k++) {
            seen += x.reach(4, k, 2) >= 0 && x.reach(4, k, 2) < many ? 1 : 0;
            if (k % 50 == 49) {
                x = Check.box(30, 10, 20);
            }
        }
        CHECK.due("by four, from 0 on", seen, Math.min(many, 400));
    }

    /** "These" are those REACHED by n PARTS and no fewer. */
    private static void notByFewer() {
        WishedResistor x = Check.box(10, 20, 5);
        // 20 is 10+10, 5 is 10|10, 10 is 20|20 and 5+5: by two they are none.
        for (int k = 0; k < x.reached(2); k++) {
            long above = x.reach(2, k, 0);
            long below = x.reach(2, k, 1);
            CHECK.due("none by one", below == 1 && (above == 10 || above == 20 || above == 5) ? 1 : 0, 0);
        }
        CHECK.due("by one", x.fewest(20, 1), 1);
        CHECK.due("by one, as a wish not in lowest terms", x.fewest(40, 2), 1);
        CHECK.due("in all", x.reached(1) + x.reached(2) + x.reached(3) + x.reached(4), x.count(5));
    }

    private static Model model(int... ohms) {
        Model m = new Model();
        for (int sort = 0; sort < 4; sort++) {
            m.sort(sort, ohms[sort], 0);
        }
        return m;
    }

    private static void rows(String name, WishedResistor x, Model m, int n) {
        CHECK.due(name + ": by " + n, x.reached(n), m.reached(n));
        for (int k = 0; k < 6; k++) {
            for (int what = 0; what < 3; what++) {
                CHECK.due(name + ": by " + n + ", the " + k, x.reach(n, k, what), m.reach(n, k, what));
            }
        }
    }

    /** By THE BOX as it is: each time one of its sorts has other OHMS, or all have. */
    private static void boxAsItIs() {
        WishedResistor x = new WishedResistor();
        int[][] boxes = {{10, 0, 33, 7}, {11, 20, 5, 80}, {80, 5, 20, 11}, {80, 5, 20, 12}, {80, 5, 99, 12}, {80, 6, 99, 12},
            {1, 6, 99, 12}, {0, 0, 0, 3}, {7, 0, 0, 0}, {0, 0, 0, 0}};
        for (int[] box : boxes) {
            for (int sort = 0; sort < 4; sort++) {
                x.sort(sort, box[sort], sort);
            }
            rows("the box as it is", x, model(box), 2);
            CHECK.due("all of the box as it is", x.count(5), model(box).count(5));
        }
        WishedResistor y = Check.box(10, 20, 33, 7);
        y.image();
        for (int sort = 0; sort < 4; sort++) {
            y.sort(sort, 50 + sort, 0);
        }
        rows("another box", y, model(50, 51, 52, 53), 3);
        y.back();
        rows("the box as it was", y, model(10, 20, 33, 7), 3);
        CHECK.due("a wish by the box as it was", y.fewest(43, 1), 2);
    }

    /** Whichever n is asked for first, and again. */
    private static void inAnyOrder() {
        int[][] orders = {{4, 3, 2, 1}, {1, 2, 3, 4}, {2, 1, 4, 3}, {3, 1, 3, 2}, {2, 1, 2, 1}};
        int[] ohms = {64, 99, 5, 17};
        for (int[] order : orders) {
            WishedResistor x = Check.box(ohms);
            Model m = model(ohms);
            for (int n : order) {
                rows("in any order", x, m, n);
            }
            for (int n : order) {
                rows("in any order, again", x, m, n);
            }
        }
    }

    /** reach(), nearest(): -2 as a long where there is none. */
    private static void noneAsALong() {
        WishedResistor x = new WishedResistor();
        CHECK.due("reach, nothing", x.reach(1, 0, 0), -2L);
        CHECK.due("nearest, nothing", x.nearest(5, 1, 4, 0), -2L);
        x.sort(3, 5, 0);
        CHECK.due("reach", x.reach(1, 0, 0), 5);
        CHECK.due("reach, no second", x.reach(1, 1, 1), -2L);
        CHECK.due("nearest", x.nearest(999, 1, 1, 0), 5);
        x.sort(3, 0, 0);
        CHECK.due("reach, nothing again", x.reach(4, 0, 2), -2L);
        CHECK.due("nearest, nothing again", x.nearest(5, 1, 4, 2), -2L);
    }

    private static void near(WishedResistor x, int p, int q, int n, long above, long below, long parts) {
        String name = "nearest to " + p + " by " + q + " of up to " + n;
        CHECK.due(name + ", above", x.nearest(p, q, n, 0), above);
        CHECK.due(name + ", below", x.nearest(p, q, n, 1), below);
        CHECK.due(name + ", parts", x.nearest(p, q, n, 2), parts);
    }

    /** nearest(): of like ones the fewest PARTS, then the lesser value. */
    private static void likeNear() {
        WishedResistor x = Check.box(12);
        // 6 by two, 12 by one: the one part is told, though it is the greater.
        near(x, 9, 1, 2, 12, 1, 1);
        near(x, 9, 1, 4, 9, 1, 4);
        near(x, 18, 1, 2, 12, 1, 1);
        near(x, 18, 1, 3, 18, 1, 3);
        // 4 by three and 6 by two around 5; 8 by three and 6 by two around 7.
        near(x, 5, 1, 3, 6, 1, 2);
        near(x, 7, 1, 3, 6, 1, 2);
        // Both by one part: the lesser, whichever sort comes first.
        near(Check.box(20, 10), 15, 1, 4, 15, 1, 3);
        near(Check.box(20, 10), 15, 1, 1, 10, 1, 1);
        near(Check.box(10, 20), 15, 1, 1, 10, 1, 1);
        near(Check.box(30, 11, 10, 21), 31, 2, 1, 11, 1, 1);
        near(Check.box(21, 10, 20, 11), 31, 2, 1, 11, 1, 1);
        near(Check.box(21, 10), 31, 2, 1, 10, 1, 1);
    }

    /** Values whose numbers are great, and wishes of which both are. */
    private static void nearestOfGreat() {
        int[] ohms = {97, 89, 83, 79};
        Model m = model(ohms);
        int[][] wishes = {{999, 998}, {998, 999}, {997, 101}, {999, 47}, {999, 41}, {983, 39}, {999, 31}, {541, 20}, {991, 45}, {1, 999},
            {999, 13}, {967, 11}, {999, 10}, {997, 4}, {907, 42}, {952, 44}};
        for (int[] wish : wishes) {
            WishedResistor x = Check.box(ohms);
            for (int n = 1; n <= 4; n++) {
                String name = "nearest to " + wish[0] + " by " + wish[1] + " of up to " + n;
                for (int what = 0; what < 3; what++) {
                    CHECK.due(name, x.nearest(wish[0], wish[1], n, what), m.nearest(wish[0], wish[1], n, what));
                }
            }
        }
    }

    /** REACHED by n: for k from 1 to n by 2 (cut), x by k, y by n less k, first the SERIES, then the BESIDE. */
    private static void madeSo() {
        WishedResistor x = Check.box(12, 12, 7);
        String[] made = {"a", "c", "(a+a)", "(a|a)", "(a+c)", "(a|c)", "(c+c)", "(c|c)"};
        int[][] wish = {{12, 1}, {7, 1}, {24, 1}, {6, 1}, {19, 1}, {84, 19}, {14, 1}, {7, 2}};
        for (int i = 0; i < made.length; i++) {
            CHECK.text("made so", Check.printed(x, x.make(wish[i][0], wish[i][1])), made[i]);
            CHECK.due("by how many", x.fewest(wish[i][0], wish[i][1]), made[i].length() == 1 ? 1 : 2);
        }
        WishedResistor y = Check.box(10);
        // By three: one with each by two. By four: one with each by three, then each by two from itself on.
        CHECK.text("by three", Check.printed(y, y.make(30, 1)), "(a+(a+a))");
        CHECK.text("by three", Check.printed(y, y.make(15, 1)), "(a+(a|a))");
        CHECK.text("by four", Check.printed(y, y.make(40, 1)), "(a+(a+(a+a)))");
        CHECK.text("by four", Check.printed(y, y.make(5, 2)), "(a|(a|(a|a)))");
        CHECK.text("25 is 10 and 15", Check.printed(y, y.make(25, 1)), "(a+(a+(a|a)))");
        CHECK.due("kept: of each its first, its second, then itself", y.count(0), 9);
        String[] order = {"a", "(a+a)", "(a+(a+a))", "(a|a)", "(a+(a|a))", "(a+(a+(a+a)))", "(a|(a|a))", "(a|(a|(a|a)))",
            "(a+(a+(a|a)))"};
        for (int i = 0; i < order.length; i++) {
            CHECK.text("kept", Check.printed(y, i), order[i]);
        }
    }

    /** points(): EDGES are none then, whatever n is. */
    private static void pointsAnew() {
        for (int n = 2; n <= 6; n++) {
            WishedResistor x = new WishedResistor();
            x.points(3);
            x.edge(0, 1, 5);
            x.edge(1, 2, 5);
            CHECK.due("as many as it had", x.points(n), 3);
            CHECK.due("no edges", x.count(3), 0);
            CHECK.due("as many now", x.count(2), n);
            CHECK.due("no way", x.between(0, 1, 1), 0);
            CHECK.due("the first edge again", x.edge(1, 0, 7), 0);
        }
    }

    /** Several EDGES may be between the same two POINTS, either way about. */
    private static void severalEdges() {
        WishedResistor x = new WishedResistor();
        CHECK.due("one", x.edge(0, 1, 10), 0);
        CHECK.due("the same again", x.edge(0, 1, 10), 1);
        CHECK.due("the other way about", x.edge(1, 0, 5), 2);
        CHECK.due("between", x.between(0, 1, 0), 5);
        CHECK.due("between, below", x.between(1, 0, 1), 2);
        CHECK.due("none is a bridge", x.bridges(0, 1), 0);
        CHECK.due("none to itself", x.edge(1, 1, 5), BAD);
    }

    /** OPEN EDGES are as if not there. */
    private static void openEdges() {
        WishedResistor x = new WishedResistor();
        x.edge(0, 1, 10);
        x.edge(1, 2, 10);
        x.edge(0, 2, 20);
        CHECK.due("all closed", x.between(0, 2, 0), 10);
        CHECK.due("it was", x.tell(2, 0), 20);
        CHECK.due("as if not there", x.between(0, 2, 0), 20);
        CHECK.due("without it is the same", x.without(2, 0, 2, 0), 20);
        CHECK.due("both others are bridges", x.bridges(0, 2), 3);
        CHECK.due("it still counts", x.count(3), 3);
        CHECK.due("ways", x.ways(0), 7);
        CHECK.due("it was open", x.tell(2, 30), 0);
        CHECK.due("there again", x.between(0, 2, 0), 12);
        CHECK.due("no bridge", x.bridges(0, 2), 0);
        for (int edge = 0; edge < 3; edge++) {
            x.tell(edge, 0);
        }
        CHECK.due("all open: no way", x.between(0, 2, 1), 0);
        CHECK.due("all open: the point itself", x.ways(2), 4);
        CHECK.due("all open: none as it is", x.bridges(0, 2), STATE);
        CHECK.due("all open: all are 1 by 0, so the first", x.dearest(0, 2), 0);
    }

    /** EDGES off the points to which there is a way play no part. */
    private static void offTheWay() {
        WishedResistor x = new WishedResistor();
        x.points(6);
        x.edge(0, 1, 7);
        x.edge(2, 3, 5);
        x.edge(3, 4, 5);
        x.edge(4, 2, 5);
        CHECK.due("two points alone", x.between(0, 1, 0), 7);
        CHECK.due("the ring", x.between(2, 4, 0), 10);
        CHECK.due("the ring, below", x.between(2, 4, 1), 3);
        CHECK.due("no way from one to the other", x.between(1, 2, 0), 1);
        CHECK.due("no way, below", x.between(1, 2, 1), 0);
        CHECK.due("without one off it", x.without(2, 0, 1, 0), 7);
        CHECK.due("the bridge alone", x.bridges(1, 0), 1);
        CHECK.due("ways", x.ways(1), 3);
        x.edge(1, 5, 9);
        CHECK.due("what hangs on it plays no part", x.between(0, 1, 0), 7);
        CHECK.due("nor is it a bridge", x.bridges(1, 0), 1);
        CHECK.due("an end", x.between(5, 0, 0), 16);
    }

    /** dearest(): 1 by 0 is the greatest; one that is OPEN already counts, too; of like ones the first EDGE. */
    private static void dearest() {
        WishedResistor x = new WishedResistor();
        CHECK.due("no edges", x.dearest(0, 1), NOT);
        CHECK.due("no edges, itself", x.dearest(1, 1), NOT);
        x.edge(0, 1, 50);
        x.edge(0, 1, 9);
        x.edge(2, 1, 99);
        CHECK.due("the greatest", x.dearest(0, 1), 1);
        CHECK.due("1 by 0", x.dearest(0, 2), 2);
        CHECK.due("itself: all are 0", x.dearest(2, 2), 0);
        x.tell(1, 50);
        CHECK.due("of like ones the first", x.dearest(0, 1), 0);
        x.tell(0, 0);
        CHECK.due("one is open: the other is 1 by 0", x.dearest(0, 1), 1);
        CHECK.due("of two 1 by 0 the first", x.dearest(0, 2), 1);
        CHECK.due("no way: the first, open already", x.dearest(0, 3), 0);
        x.tell(0, 50);
        x.tell(1, 0);
        CHECK.due("the first is 1 by 0", x.dearest(0, 2), 0);
        x.points(4);
        x.edge(0, 1, 5);
        x.tell(0, 0);
        CHECK.due("the only one, open already", x.dearest(0, 1), 0);
    }

    /** BETWEEN a POINT and itself 0 by 1; bridges() of a POINT and itself: 0. */
    private static void itself() {
        WishedResistor x = new WishedResistor();
        for (int round = 0; round < 2; round++) {
            for (int a = 0; a < 4; a++) {
                CHECK.due("above", x.between(a, a, 0), 0);
                CHECK.due("below", x.between(a, a, 1), 1);
                CHECK.due("bridges", x.bridges(a, a), 0);
                CHECK.due("a way", x.ways(a) >> a & 1, 1);
            }
            x.edge(0, 1, 5);
            x.edge(1, 2, 5);
            CHECK.due("without, above", x.without(0, 1, 1, 0), 0);
            CHECK.due("without, below", x.without(0, 1, 1, 1), 1);
        }
    }

    /** KIND: 0 any, 1 PARTS, 2 SERIES and BESIDES; a place holds a NET, or none. */
    private static void kinds() {
        WishedResistor x = Check.box(10);
        int[] ids = {-1, x.part(0), x.join(0, 0, 0), x.join(1, 0, 0)};
        int[][] due = {{1, 1, 1, 1}, {1, 1, KIND, KIND}, {1, KIND, 1, 1}};
        for (int kind = 0; kind < 3; kind++) {
            x.tray(kind, kind, 4);
            for (int i = 0; i < 4; i++) {
                CHECK.due("kind " + kind, x.lay(kind, i, ids[i]), due[kind][i]);
                CHECK.due("kind " + kind + ", then", x.at(kind, i), due[kind][i] == 1 && ids[i] >= 0 ? ids[i] : NOT);
            }
        }
        CHECK.due("another net takes its place", x.lay(0, 1, 2), 1);
        CHECK.due("it is there", x.at(0, 1), 2);
        CHECK.due("the same net at two places", x.lay(0, 2, 2), 1);
        CHECK.due("none takes its place", x.lay(0, 1, -1), 1);
        CHECK.due("none is there", x.at(0, 1), NOT);
        CHECK.due("the other stays", x.at(0, 2), 2);
        CHECK.due("of another kind, all none", x.tray(0, 1, 4), 1);
        CHECK.due("none is there", x.at(0, 2), NOT);
        CHECK.due("it is of that kind", x.lay(0, 2, 2), KIND);
    }

    /** shift(): BAD, then -11 (either), -13, -12 (those ahead came). */
    private static void shiftOrder() {
        WishedResistor x = new WishedResistor();
        World.missing(x);
        CHECK.due("BAD, -11, -13", x.shift(3, 9, 1, 9, -1), BAD);
        CHECK.due("BAD of the other, -11, -13", x.shift(1, 9, 3, 9, -1), BAD);
        CHECK.due("-11, -13", x.shift(1, 9, 0, 9, -1), MISSING);
        CHECK.due("-11 of the other, -13", x.shift(0, 9, 1, 9, -1), MISSING);
        CHECK.due("-13, -12", x.shift(0, 0, 2, 1, 2), OUTSIDE);
        CHECK.due("-13 of n, -12", x.shift(0, 0, 2, 0, -1), OUTSIDE);
        CHECK.due("-12", x.shift(0, 0, 2, 1, 1), KIND);
        CHECK.due("none came", x.at(2, 1), NOT);
        CHECK.due("-12 behind one that came", x.shift(0, 3, 2, 1, 1) + x.shift(0, 0, 2, 0, 1), 1 + KIND);
        CHECK.due("it came", x.at(2, 1), 4);
        CHECK.due("what was there stays", x.at(2, 0), 3);
    }

    /** One by one from the first on, as they were ahead of it. */
    private static void aheadOfIt() {
        int[][] shifts = {{0, 1, 4}, {1, 0, 4}, {0, 2, 3}, {2, 0, 3}, {0, 4, 1}, {4, 0, 1}, {1, 1, 3}, {0, 5, 0}, {5, 0, 0}};
        for (int[] s : shifts) {
            WishedResistor x = new WishedResistor();
            World.nets(x, 13);
            x.tray(2, 0, 5);
            int[] row = {4, -1, 7, 0, 12};
            for (int i = 0; i < 5; i++) {
                x.lay(2, i, row[i]);
            }
            CHECK.due("in its own", x.shift(2, s[0], 2, s[1], s[2]), s[2]);
            int[] due = row.clone();
            System.arraycopy(row, s[0], due, s[1], s[2]);
            for (int i = 0; i < 5; i++) {
                CHECK.due("in its own, place " + i, x.at(2, i), due[i] < 0 ? NOT : due[i]);
            }
        }
    }

    /** THE IMAGE: THE BOX, NETS, the MESH, TRAYS; all is as it was, as often as one goes back. */
    private static void imageOfAll() {
        Twin.Way change = x -> {
            x.sort(0, 1, 0);
            x.sort(2, 3, 4);
            read(x, "(c|(a+c))");
            x.tell(0, 0);
            x.points(2);
            x.edge(0, 1, 1);
            x.tray(0, 2, 1);
            x.tray(1, -1, 0);
            x.lay(2, 0, -1);
        };
        Twin.alike(CHECK, "back once", World::untaped, x -> {
            x.image();
            change.lead(x);
            CHECK.due("37 nets", x.back(), 5);
        }, x -> x.image());
        Twin.alike(CHECK, "back again", World::untaped, x -> {
            x.image();
            change.lead(x);
            x.back();
            change.lead(x);
            CHECK.due("37 nets", x.back(), 5);
        }, x -> x.image());
        Twin.alike(CHECK, "back to nothing", World::empty, x -> {
            change.lead(x);
            CHECK.due("37 nets", x.back(), 0);
        }, x -> { });
        Twin.alike(CHECK, "back to many", x -> World.nets(x, 40), x -> {
            x.image();
            change.lead(x);
            CHECK.due("37 nets", x.back(), 40);
        }, x -> x.image());
        Twin.alike(CHECK, "the newer image", World::untaped, x -> {
            x.image();
            change.lead(x);
            x.image();
        }, x -> {
            change.lead(x);
            x.image();
        });
    }

    /** THE IMAGE does not keep THE TAPE. */
    private static void withoutTape() {
        WishedResistor x = Check.box(10);
        x.feed('a');
        x.image();
        CHECK.due("a byte more", x.feed('a'), 2);
        x.back();
        CHECK.due("two bytes", x.count(4), 2);
        CHECK.due("it stays", x.read(), -101);
        x.feed('a');
        x.image();
        CHECK.due("read", x.read(), 0);
        x.back();
        CHECK.due("no bytes", x.count(4), 0);
        CHECK.due("nothing to read", x.read(), -100);
        CHECK.due("and no net", x.count(0), 0);
    }
}
