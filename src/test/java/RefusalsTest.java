/**
 * Each refusal that is none of a single number's range: the answer, that nothing has changed but what
 * the document tells, and the first of several that are due at once.
 */
public final class RefusalsTest {
    private static final Check CHECK = new Check("RefusalsTest");
    private static final long BAD = WishedResistor.BAD, NOT = WishedResistor.NOT, FULL = WishedResistor.FULL;
    private static final long STATE = WishedResistor.STATE, LONG = WishedResistor.LONG, VOID = WishedResistor.VOID;
    private static final long MISSING = -11, KIND = -12, OUTSIDE = -13, SIZE = -14;

    public static void main(String[] args) {
        sort();
        part();
        join();
        net();
        longNets();
        within();
        feed();
        faults();
        readFull();
        print();
        emptyBox();
        wishes();
        makeFull();
        points();
        edges();
        noEdges();
        bridges();
        tray();
        lay();
        at();
        shift();
        shiftKinds();
        back();
        askingOnly();
        CHECK.end();
    }

    private static void refused(String name, Twin.Way way, Twin.Call call, long due) {
        Twin.refused(CHECK, name, way, call, due);
    }

    private static void sort() {
        refused("2 STATE: a net has a part of it", World::some, x -> x.sort(0, 0, 5), STATE);
        refused("2 STATE: nor its spread changes", World::some, x -> x.sort(1, 0, 50), STATE);
        refused("2 BAD ahead of STATE", World::some, x -> x.sort(0, 0, 51), BAD);
        refused("2 BAD ahead of STATE", World::some, x -> x.sort(0, 0, -1), BAD);
        refused("2 BAD of all three", World::some, x -> x.sort(4, 100, 51), BAD);
        Twin.Way d = x -> {
            World.some(x);
            x.part(3);
        };
        refused("2 STATE: as soon as there is a part", d, x -> x.sort(3, 0, 0), STATE);
        WishedResistor x = new WishedResistor();
        World.some(x);
        CHECK.due("2 not STATE: no net has a part of it", x.sort(3, 0, 0), 7);
        CHECK.due("2 not STATE: it wasn't there", x.sort(3, 0, 0), 0);
        CHECK.due("2 not STATE: the least ohms", x.sort(0, 1, 0), 10);
    }

    private static void part() {
        refused("4 STATE", World::some, x -> x.part(2), STATE);
        refused("4 STATE of an empty box", World::empty, x -> x.part(0), STATE);
        refused("4 FULL", World::full, x -> x.part(2), FULL);
        refused("4 BAD ahead of FULL", World::full, x -> x.part(4), BAD);
        refused("4 BAD ahead of FULL", World::full, x -> x.part(-1), BAD);
        Twin.Way gone = x -> {
            World.full(x);
            x.sort(3, 0, 0);
        };
        refused("4 STATE ahead of FULL", gone, x -> x.part(3), STATE);
        refused("4 there though 40 are", World::full, x -> x.part(1), 12);
        refused("4 there", World::some, x -> x.part(1), 1);
    }

    private static void join() {
        Twin.Way room = x -> World.nets(x, 20);
        refused("5 LONG: a 13th", room, x -> x.join(0, 11, 0), LONG);
        refused("5 LONG: a 13th", room, x -> x.join(1, 0, 11), LONG);
        refused("5 LONG: 6 and 7", room, x -> x.join(1, 5, 6), LONG);
        refused("5 LONG: 7 and 6", room, x -> x.join(0, 6, 5), LONG);
        refused("5 LONG: one that is both counts twice", room, x -> x.join(1, 6, 6), LONG);
        refused("5 LONG: 24", room, x -> x.join(0, 11, 11), LONG);
        refused("5 BAD ahead of LONG: how", room, x -> x.join(2, 11, 11), BAD);
        refused("5 BAD ahead of LONG: how", room, x -> x.join(-1, 11, 11), BAD);
        refused("5 BAD: first", room, x -> x.join(0, 20, 11), BAD);
        refused("5 BAD: second", room, x -> x.join(0, 11, 20), BAD);
        refused("5 FULL", World::full, x -> x.join(0, 0, 12), FULL);
        refused("5 FULL", World::full, x -> x.join(1, 12, 12), FULL);
        refused("5 LONG ahead of FULL", World::full, x -> x.join(0, 11, 12), LONG);
        refused("5 LONG ahead of FULL", World::full, x -> x.join(1, 39, 11), LONG);
        refused("5 BAD ahead of FULL: how", World::full, x -> x.join(2, 0, 12), BAD);
        refused("5 BAD ahead of FULL: first", World::full, x -> x.join(0, 40, 12), BAD);
        refused("5 BAD ahead of FULL: second", World::full, x -> x.join(0, 0, -1), BAD);
        refused("5 there though 40 are", World::full, x -> x.join(0, 10, 0), 11);
        refused("5 there though 40 are", World::full, x -> x.join(1, 0, 0), 13);
        refused("5 BAD: no nets", World::empty, x -> x.join(0, 0, 0), BAD);
    }

    private static void net() {
        refused("6 NOT: a part has no second", World::some, x -> x.net(0, 2), NOT);
        refused("6 NOT: a part has no second", World::some, x -> x.net(1, 2), NOT);
        refused("6 BAD: no such net", World::some, x -> x.net(5, 2), BAD);
        refused("6 BAD of both", World::some, x -> x.net(5, 5), BAD);
        refused("6 BAD: no nets", World::empty, x -> x.net(0, 0), BAD);
    }

    private static void longNets() {
        Twin.Way way = World::ladder;
        WishedResistor made = new WishedResistor();
        int id = World.ladder(made);
        CHECK.due("7 the last net", id, made.count(0) - 1);
        refused("7 LONG", way, x -> x.value(id, 0), LONG);
        refused("7 LONG", way, x -> x.value(id, 1), LONG);
        refused("7 VOID ahead of LONG", way, x -> x.value(id, 2), VOID);
        refused("7 VOID ahead of LONG", way, x -> x.value(id, -1), VOID);
        refused("12 LONG of the first", way, x -> x.alike(id, 0), LONG);
        refused("12 LONG of the second", way, x -> x.alike(0, id), LONG);
        refused("12 LONG of both", way, x -> x.alike(id, id), LONG);
        refused("12 BAD ahead of LONG", way, x -> x.alike(id, id + 1), BAD);
        refused("12 BAD ahead of LONG", way, x -> x.alike(-1, id), BAD);
        refused("14 LONG", way, x -> x.fails(id, 10, 0, 0), LONG);
        refused("14 LONG", way, x -> x.fails(id, 10, 0, 1), LONG);
        refused("14 VOID ahead of LONG: place", way, x -> x.fails(id, 11, 0, 0), VOID);
        refused("14 VOID ahead of LONG: place", way, x -> x.fails(id, -1, 0, 0), VOID);
        refused("14 VOID ahead of LONG: how", way, x -> x.fails(id, 10, 2, 0), VOID);
        refused("14 VOID ahead of LONG: how", way, x -> x.fails(id, 10, -1, 0), VOID);
        refused("14 VOID ahead of LONG: part", way, x -> x.fails(id, 10, 0, 2), VOID);
        refused("14 VOID ahead of LONG: part", way, x -> x.fails(id, 10, 0, -1), VOID);
        refused("15 LONG by OPEN", way, x -> x.worst(id, 0), LONG);
        refused("15 LONG by SHORT", way, x -> x.worst(id, 1), LONG);
        refused("15 BAD ahead of LONG", way, x -> x.worst(id, 2), BAD);
        refused("15 BAD ahead of LONG", way, x -> x.worst(id, -1), BAD);
    }

    private static void within() {
        int[][] bad = {{5, 31, 1000, 1000, 100}, {-1, 0, 0, 0, -1}, {0, 31, 1000, 1, 1}, {0, 1, 1, 0, 100}};
        for (int[] b : bad) {
            refused("11 BAD of several", World::some, x -> x.within(b[0], 1, b[1], b[2], b[3], b[4]), BAD);
        }
        refused("11 BAD: no nets", World::empty, x -> x.within(0, 1, 1, 1, 1, 1), BAD);
    }

    private static void feed() {
        refused("16 FULL", World::tape, x -> x.feed('a'), FULL);
        refused("16 FULL", World::tape, x -> x.feed(32), FULL);
        refused("16 FULL", World::tape, x -> x.feed(126), FULL);
        refused("16 BAD ahead of FULL", World::tape, x -> x.feed(31), BAD);
        refused("16 BAD ahead of FULL", World::tape, x -> x.feed(127), BAD);
        refused("16 BAD, the tape is empty", World::empty, x -> x.feed(127), BAD);
    }

    /** A FAULT leaves the tape empty, and all else as it was. */
    private static void faulty(String name, Twin.Way way, String text, int fault) {
        Twin.same(CHECK, "17 " + name, way, x -> {
            World.text(x, text);
            CHECK.due("17 " + name + " " + text, x.read(), -100 - fault);
            CHECK.due("17 " + name + ": the tape is empty", x.count(4), 0);
        });
    }

    private static void faults() {
        Twin.Way some = World::untaped;
        faulty("nothing at all", some, "", 0);
        faulty("a sort that isn't there", some, "c", 0);
        faulty("the first is kept by no fault", some, "(d+c)", 3);
        faulty("behind the text", some, "(d+d)(", 5);
        faulty("behind a part", some, "da", 1);
        faulty("too early an end", some, "((d+a)|(d+b)", 12);
        faulty("a blank", some, "(d +a)", 2);
        faulty("FAULT ahead of FULL", World::full, "(c+d", 4);
        faulty("FAULT ahead of FULL", World::full, "(c+d)+", 5);
        faulty("FAULT ahead of FULL", World::full, "(c+(d|", 6);
        faulty("FAULT ahead of FULL, of a part", World::full, "cc", 1);
        faulty("an empty box", World::empty, "a", 0);
        faulty("an empty box", World::empty, "(((", 3);
    }

    /** FULL keeps what was ahead of the first net that finds no room, and leaves the tape empty. */
    private static void readFull(int many, String text, int kept, Twin.Way due) {
        String name = "17 FULL at " + many + " by " + text;
        Twin.alike(CHECK, name, x -> World.nets(x, many), x -> {
            World.text(x, text);
            CHECK.due(name, x.read(), FULL);
            CHECK.due(name + ": the tape is empty", x.count(4), 0);
            CHECK.due(name + ": nets", x.count(0), many + kept);
        }, due);
    }

    private static void readFull() {
        Twin.Way none = x -> { };
        readFull(40, "c", 0, none);
        readFull(40, "(c+d)", 0, none);
        readFull(40, "(b+a)", 0, none);
        readFull(40, "((a+a)+b)", 0, none);
        readFull(39, "(c+d)", 1, x -> x.part(2));
        readFull(39, "(a+(d|b))", 1, x -> x.part(3));
        readFull(38, "(c+d)", 2, x -> {
            x.part(2);
            x.part(3);
        });
        readFull(38, "((b+c)|d)", 2, x -> {
            x.part(2);
            x.join(0, 12, x.count(0) - 1);
        });
        readFull(37, "((b+c)|d)", 3, x -> {
            x.part(2);
            x.join(0, 12, x.count(0) - 1);
            x.part(3);
        });
        WishedResistor x = new WishedResistor();
        World.nets(x, 36);
        CHECK.due("17 just enough room", Check.read(x, "((b+c)|d)"), 39);
        CHECK.due("17 there though 40 are", Check.read(x, "((b+c)|d)"), 39);
        CHECK.due("17 there though 40 are", Check.read(x, "d"), 38);
    }

    private static void print() {
        refused("18 NOT: none such", World::some, x -> x.print(0, 1), NOT);
        refused("18 NOT: none such", World::some, x -> x.print(4, 13), NOT);
        refused("18 BAD of both", World::some, x -> x.print(5, -2), BAD);
        refused("18 BAD: no net, no such byte", World::some, x -> x.print(5, 99), BAD);
        refused("18 BAD: no nets", World::empty, x -> x.print(0, -1), BAD);
    }

    private static void emptyBox() {
        for (int n = 1; n <= 4; n++) {
            int parts = n;
            refused("20 -2: an empty box", World::empty, x -> x.reach(parts, 0, 2), -2);
            refused("20 VOID ahead of -2: k", World::empty, x -> x.reach(parts, -1, 0), VOID);
            refused("20 VOID ahead of -2: what", World::empty, x -> x.reach(parts, 0, 3), VOID);
            refused("22 -2: an empty box", World::empty, x -> x.nearest(1, 1, parts, 2), -2);
            refused("22 VOID ahead of -2: p", World::empty, x -> x.nearest(0, 1, parts, 0), VOID);
            refused("22 VOID ahead of -2: q", World::empty, x -> x.nearest(1, 1000, parts, 0), VOID);
            refused("22 VOID ahead of -2: what", World::empty, x -> x.nearest(1, 1, parts, -1), VOID);
        }
        refused("20 VOID ahead of -2: n", World::empty, x -> x.reach(0, 0, 0), VOID);
        refused("20 VOID ahead of -2: n", World::empty, x -> x.reach(5, 0, 0), VOID);
        refused("22 VOID ahead of -2: n", World::empty, x -> x.nearest(1, 1, 0, 0), VOID);
        refused("22 VOID ahead of -2: n", World::empty, x -> x.nearest(1, 1, 5, 0), VOID);
        refused("21 NOT: an empty box", World::empty, x -> x.fewest(1, 1), NOT);
        refused("21 BAD ahead of NOT", World::empty, x -> x.fewest(0, 1), BAD);
        refused("21 BAD ahead of NOT", World::empty, x -> x.fewest(1, 1000), BAD);
        refused("23 NOT: an empty box", World::empty, x -> x.make(1, 1), NOT);
        refused("23 BAD ahead of NOT", World::empty, x -> x.make(1, 0), BAD);
        refused("23 BAD ahead of NOT", World::empty, x -> x.make(1000, 1), BAD);
    }

    private static void wishes() {
        refused("20 -2: no so many", World::some, x -> x.reach(1, 3, 0), -2);
        refused("20 VOID ahead of -2", World::some, x -> x.reach(1, 99999, 3), VOID);
        refused("20 VOID ahead of -2", World::some, x -> x.reach(5, 99999, 0), VOID);
        refused("21 NOT: by none", World::some, x -> x.fewest(61, 1), NOT);
        refused("21 BAD of both", World::some, x -> x.fewest(1000, 0), BAD);
        refused("23 NOT: by none", World::some, x -> x.make(61, 1), NOT);
        refused("23 NOT: by none", World::some, x -> x.make(1, 999), NOT);
    }

    private static void makeFull(int many, int p, int kept, Twin.Way due) {
        String name = "23 FULL at " + many + " by " + p;
        Twin.alike(CHECK, name, x -> World.nets(x, many), x -> {
            CHECK.due(name, x.make(p, 1), FULL);
            CHECK.due(name + ": nets", x.count(0), many + kept);
        }, due);
    }

    /** 50 is MADE as (a+d), 70 as (c+d), 90 as a join of three; of c and d there is no net yet. */
    private static void makeFull() {
        Twin.Way none = x -> { };
        makeFull(40, 30, 0, none);
        makeFull(40, 50, 0, none);
        makeFull(39, 50, 1, x -> x.part(3));
        makeFull(40, 90, 0, none);
        makeFull(39, 70, 1, x -> x.part(2));
        makeFull(38, 70, 2, x -> {
            x.part(2);
            x.part(3);
        });
        refused("23 NOT ahead of FULL", World::full, x -> x.make(997, 1), NOT);
        refused("23 BAD ahead of FULL", World::full, x -> x.make(0, 1), BAD);
        refused("23 BAD ahead of FULL", World::full, x -> x.make(30, 1000), BAD);
        refused("23 there though 40 are", World::full, x -> x.make(10, 1), 0);
        refused("23 there though 40 are", World::full, x -> x.make(5, 1), 13);
    }

    private static void points() {
        refused("24 BAD: the edges stay", World::some, x -> x.points(1), BAD);
        refused("24 BAD: the edges stay", World::some, x -> x.points(7), BAD);
        refused("24 BAD: the edges stay", World::edges, x -> x.points(0), BAD);
    }

    private static void edges() {
        refused("25 FULL", World::edges, x -> x.edge(0, 1, 5), FULL);
        refused("25 FULL", World::edges, x -> x.edge(2, 3, 99), FULL);
        refused("25 BAD ahead of FULL: like points", World::edges, x -> x.edge(1, 1, 5), BAD);
        refused("25 BAD ahead of FULL: no such point", World::edges, x -> x.edge(4, 1, 5), BAD);
        refused("25 BAD ahead of FULL: no such point", World::edges, x -> x.edge(1, -1, 5), BAD);
        refused("25 BAD ahead of FULL: ohms", World::edges, x -> x.edge(0, 1, 0), BAD);
        refused("25 BAD ahead of FULL: ohms", World::edges, x -> x.edge(0, 1, 100), BAD);
        Twin.Way open = x -> {
            World.edges(x);
            x.tell(3, 0);
        };
        refused("25 FULL: one that is open counts", open, x -> x.edge(0, 1, 5), FULL);
    }

    private static void noEdges() {
        refused("26 BAD: no edges", World::noEdges, x -> x.tell(0, 5), BAD);
        refused("26 BAD of both", World::some, x -> x.tell(4, 100), BAD);
        refused("27 VOID of all", World::some, x -> x.between(5, -1, 2), VOID);
        refused("28 VOID: no edges", World::noEdges, x -> x.without(0, 0, 1, 0), VOID);
        refused("28 VOID of all", World::some, x -> x.without(4, 5, -1, 2), VOID);
        refused("29 NOT: no edges", World::noEdges, x -> x.dearest(0, 1), NOT);
        refused("29 NOT: no edges, from a point to itself", World::noEdges, x -> x.dearest(2, 2), NOT);
        refused("29 BAD ahead of NOT", World::noEdges, x -> x.dearest(5, 1), BAD);
        refused("29 BAD ahead of NOT", World::noEdges, x -> x.dearest(0, -1), BAD);
    }

    private static void bridges() {
        refused("30 STATE: no edge there", World::some, x -> x.bridges(0, 4), STATE);
        refused("30 STATE: it is open", World::some, x -> x.bridges(3, 2), STATE);
        refused("30 STATE: no edges", World::noEdges, x -> x.bridges(0, 1), STATE);
        refused("30 BAD ahead of STATE", World::noEdges, x -> x.bridges(0, 5), BAD);
        refused("30 BAD ahead of STATE", World::noEdges, x -> x.bridges(-1, 0), BAD);
        refused("30 none of a point and itself, no STATE", World::noEdges, x -> x.bridges(4, 4), 0);
    }

    private static void tray() {
        refused("32 -14", World::some, x -> x.tray(0, 0, -1), SIZE);
        refused("32 -14 of one that is missing", World::missing, x -> x.tray(1, 2, -1), SIZE);
        refused("32 BAD ahead of -14: tray", World::some, x -> x.tray(3, 0, -1), BAD);
        refused("32 BAD ahead of -14: tray", World::some, x -> x.tray(-1, 0, -1), BAD);
        refused("32 BAD ahead of -14: kind", World::some, x -> x.tray(0, 3, -1), BAD);
        refused("32 BAD ahead of -14: kind", World::some, x -> x.tray(0, -2, -1), BAD);
        refused("32 BAD: tray, though n doesn't matter", World::some, x -> x.tray(3, -1, 5), BAD);
        refused("32 BAD: n", World::some, x -> x.tray(1, 1, 21), BAD);
        refused("32 missing already", World::missing, x -> x.tray(1, -1, 5), 1);
    }

    private static void lay() {
        refused("33 -12: a join on parts", World::some, x -> x.lay(1, 0, 2), KIND);
        refused("33 -12: a join on parts, where one is", World::some, x -> x.lay(1, 1, 3), KIND);
        refused("33 -12: a part on joins", World::some, x -> x.lay(2, 0, 1), KIND);
        refused("33 -11", World::missing, x -> x.lay(1, 0, 1), MISSING);
        refused("33 -11, none", World::missing, x -> x.lay(1, 0, -1), MISSING);
        refused("33 -13, none", World::some, x -> x.lay(1, 3, -1), OUTSIDE);
        refused("33 BAD ahead of -11", World::missing, x -> x.lay(1, 0, 5), BAD);
        refused("33 BAD ahead of -11", World::missing, x -> x.lay(1, 0, -2), BAD);
        refused("33 BAD ahead of -13", World::some, x -> x.lay(0, 4, 5), BAD);
        refused("33 BAD ahead of -13", World::some, x -> x.lay(3, 4, 0), BAD);
        refused("33 -11 ahead of -13", World::missing, x -> x.lay(1, 3, 1), MISSING);
        refused("33 -11 ahead of -13", World::missing, x -> x.lay(1, -1, 1), MISSING);
        refused("33 -13 ahead of -12", World::some, x -> x.lay(1, 3, 2), OUTSIDE);
        refused("33 -13 ahead of -12", World::some, x -> x.lay(2, -1, 0), OUTSIDE);
        refused("33 BAD: no nets", x -> x.tray(0, 0, 1), x -> x.lay(0, 0, 0), BAD);
        refused("33 none, though there are no nets", x -> x.tray(0, 0, 1), x -> x.lay(0, 0, -1), 1);
    }

    private static void at() {
        refused("34 NOT: none", World::some, x -> x.at(0, 2), NOT);
        refused("34 -11", World::missing, x -> x.at(1, 1), MISSING);
        refused("34 -11 ahead of -13", World::missing, x -> x.at(1, 20), MISSING);
        refused("34 -11 ahead of -13", World::missing, x -> x.at(1, -1), MISSING);
        refused("34 -13", World::some, x -> x.at(2, 2), OUTSIDE);
        refused("34 BAD ahead of -13", World::some, x -> x.at(3, 20), BAD);
    }

    private static void shift() {
        refused("35 -11: the one", World::missing, x -> x.shift(1, 0, 0, 0, 1), MISSING);
        refused("35 -11: the other", World::missing, x -> x.shift(0, 0, 1, 0, 1), MISSING);
        refused("35 -11: both", World::missing, x -> x.shift(1, 0, 1, 0, 1), MISSING);
        refused("35 BAD ahead of -11", World::missing, x -> x.shift(1, 0, 3, 0, 1), BAD);
        refused("35 BAD ahead of -11", World::missing, x -> x.shift(-1, 0, 1, 0, 1), BAD);
        refused("35 BAD ahead of -13", World::some, x -> x.shift(0, 4, 3, 0, -1), BAD);
        refused("35 BAD ahead of -13", World::some, x -> x.shift(3, 0, 0, 4, -1), BAD);
        refused("35 -11 ahead of -13: i", World::missing, x -> x.shift(0, 4, 1, 0, 1), MISSING);
        refused("35 -11 ahead of -13: j", World::missing, x -> x.shift(1, 0, 0, 4, 1), MISSING);
        refused("35 -11 ahead of -13: n", World::missing, x -> x.shift(0, 0, 1, 0, -1), MISSING);
        refused("35 -13: n below 0", World::some, x -> x.shift(0, 2, 0, 2, -1), OUTSIDE);
        refused("35 -13: n below 0", World::some, x -> x.shift(0, 0, 0, 0, Integer.MIN_VALUE), OUTSIDE);
        refused("35 -13: a sum that wraps around", World::some, x -> x.shift(0, 2, 0, 0, Integer.MAX_VALUE), OUTSIDE);
        refused("35 -13: a sum that wraps around", World::some, x -> x.shift(0, 0, 0, Integer.MAX_VALUE, 2), OUTSIDE);
        refused("35 -13: a sum that wraps around", World::some, x -> x.shift(0, Integer.MIN_VALUE, 0, 0, Integer.MIN_VALUE), OUTSIDE);
        refused("35 -13 ahead of -12", World::some, x -> x.shift(0, 1, 1, 0, 4), OUTSIDE);
        refused("35 -13 ahead of -12", World::some, x -> x.shift(0, 0, 2, 2, 1), OUTSIDE);
        refused("35 -13 of the last alone: none comes", World::some, x -> x.shift(0, 0, 1, 0, 5), OUTSIDE);
        refused("35 -12: none ahead of it", World::some, x -> x.shift(0, 1, 1, 0, 2), KIND);
        refused("35 -12: none ahead of it", World::some, x -> x.shift(0, 0, 2, 0, 1), KIND);
    }

    /** Those ahead of the one of no such kind came, places that hold none among them; it and those behind did not. */
    private static void shiftKinds() {
        Twin.Way way = x -> {
            World.some(x);
            x.tray(1, 1, 5);
            x.lay(1, 3, 1);
        };
        Twin.alike(CHECK, "35 -12: one ahead of it came", way,
            x -> CHECK.due("35 -12", x.shift(0, 0, 1, 1, 3), KIND),
            x -> x.lay(1, 1, 0));
        Twin.alike(CHECK, "35 -12: none of the last came", way,
            x -> CHECK.due("35 -12", x.shift(0, 2, 1, 3, 2), KIND),
            x -> x.lay(1, 3, -1));
        Twin.alike(CHECK, "35 -12 of joins: two ahead of it came", World::some,
            x -> {
                x.tray(2, 2, 4);
                x.lay(0, 3, 0);
                CHECK.due("35 -12", x.shift(0, 1, 2, 0, 3), KIND);
            },
            x -> {
                x.tray(2, 2, 4);
                x.lay(0, 3, 0);
                x.lay(2, 0, 2);
            });
    }

    private static void back() {
        refused("37 STATE: none was taken", x -> { }, x -> x.back(), STATE);
        Twin.Way untaken = x -> {
            Check.read(x, "a");
            x.sort(0, 5, 5);
            x.part(0);
            x.points(3);
            x.edge(0, 2, 5);
            x.tray(1, 0, 3);
            x.feed('a');
        };
        refused("37 STATE: none was taken", untaken, x -> x.back(), STATE);
        refused("38 BAD", x -> { }, x -> x.count(6), BAD);
    }

    /** What only asks changes nothing, nor does asking it again answer otherwise. */
    private static void askingOnly() {
        for (int round = 0; round < 2; round++) {
            Twin.Way asked = round == 0 ? x -> { } : RefusalsTest::askOnly;
            Twin.same(CHECK, "what only asks", x -> {
                World.some(x);
                asked.lead(x);
            }, RefusalsTest::askOnly);
        }
    }

    private static void askOnly(WishedResistor x) {
        CHECK.due("3 asks only", x.ofSort(0, 0), 10);
        CHECK.due("6 asks only", x.net(4, 1), 2);
        CHECK.due("7 asks only", x.value(4, 0), 150);
        CHECK.due("8 asks only", x.ends(0, 0), Double.doubleToLongBits(9.5));
        CHECK.due("9 asks only", x.shortly(2), Float.floatToIntBits(25.0f));
        CHECK.due("10 asks only", x.drawn(0, 0), Float.floatToIntBits(9.5f));
        CHECK.due("11 asks only", x.within(0, 0, 1, 10, 1, 5), 1);
        CHECK.due("12 asks only", x.alike(4, 3), 0);
        CHECK.due("13 asks only", x.turned(4, 4), 1);
        CHECK.due("14 asks only", x.fails(4, 0, 1, 0), 30);
        CHECK.due("15 asks only", x.worst(4, 0), 2);
        CHECK.due("18 asks only", x.print(4, -1), 13);
        CHECK.due("19 asks only", x.reached(1), 3);
        CHECK.due("20 asks only", x.reach(1, 1, 0), 10);
        CHECK.due("21 asks only", x.fewest(17, 1), 2);
        CHECK.due("22 asks only", x.nearest(999, 1, 4, 0), 60);
        CHECK.due("27 asks only", x.between(0, 2, 0), 11);
        CHECK.due("28 asks only", x.without(0, 0, 2, 0), 20);
        CHECK.due("29 asks only", x.dearest(0, 2), 1);
        CHECK.due("30 asks only", x.bridges(0, 2), 2);
        CHECK.due("31 asks only", x.ways(0), 7);
        CHECK.due("34 asks only", x.at(0, 3), 4);
        CHECK.due("38 asks only", x.count(4), 3);
    }
}
