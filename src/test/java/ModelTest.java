/** Long runs of calls, each answered by the program and by the model. */
public final class ModelTest {
    private static final int CALLS = 512;
    private static final int SORT = 0, PART = 2, JOIN = 3, FEED = 15, READ = 16, EDGE = 24, TRAY = 31, SHIFT = 34;
    private static final int BACK = 36, ALL = 38;

    private final Check check;
    private long seed;
    private WishedResistor x;
    private Model m;
    private int style;
    private String name;

    private ModelTest(Check check) {
        this.check = check;
    }

    public static void main(String[] args) {
        Check check = new Check("ModelTest");
        ModelTest test = new ModelTest(check);
        int runs = args.length > 0 ? Integer.parseInt(args[0]) : 600;
        int first = args.length > 1 ? Integer.parseInt(args[1]) : 1;
        for (int run = first; run < first + runs; run++) {
            test.run(run);
        }
        check.end();
    }

    private int below(int n) {
        seed = seed * 6364136223846793005L + 1442695040888963407L;
        return (int) ((seed >>> 33) % n);
    }

    private int in(int least, int most) {
        return least + below(most - least + 1);
    }

    /** Mostly in the range, at times just beside it, seldom far off. */
    private int near(int least, int most) {
        int dice = below(40);
        if (dice == 0) return least - 1;
        if (dice == 1) return most + 1;
        if (dice == 2) return least;
        if (dice == 3) return most;
        if (dice == 4 && below(6) == 0) return below(2) == 0 ? Integer.MIN_VALUE : Integer.MAX_VALUE;
        return in(least, Math.max(least, most));
    }

    private void run(int run) {
        name = "run " + run;
        seed = run * 7919L + 17;
        style = run % 6;
        x = new WishedResistor();
        m = new Model();
        int calls = 0;
        if (style != 5) {
            for (int i = 0; i < 4 && below(5) > 0; i++) {
                one(SORT, i, style == 4 ? in(80, 99) : in(1, below(3) == 0 ? 12 : 99), in(0, 50), 0, 0, 0);
                one(PART, i, 0, 0, 0, 0, 0);
                calls += 2;
            }
        }
        while (calls < CALLS) {
            calls += step(CALLS - calls);
        }
    }

    private int step(int left) {
        int dice = below(100);
        if (dice < 6) {
            return text(left);
        }
        if (dice < 9 || style == 4 && dice < 30) {
            int size = Math.max(1, m.count(0));
            one(JOIN, in(0, 1), below(size), style == 4 && below(2) == 0 ? size - 1 : below(size), 0, 0, 0);
            return 1;
        }
        if (style == 3 && dice < 40) {
            one(EDGE, near(0, m.count(2) - 1), near(0, m.count(2) - 1), near(1, 99), 0, 0, 0);
            return 1;
        }
        if (style == 2 && dice < 40) {
            one(in(TRAY, SHIFT));
            return 1;
        }
        int op = below(ALL);
        if ((op == SORT || op == BACK) && below(4) != 0) {
            op = JOIN;
        }
        one(op);
        return 1;
    }

    /** A text that is drawn, at times with a byte that isn't as it should be. */
    private int text(int left) {
        StringBuilder t = new StringBuilder();
        grow(t, in(1, below(8) == 0 ? 14 : 6));
        if (below(4) == 0) {
            t.setCharAt(below(t.length()), "()+|abcde *~A".charAt(below(13)));
        }
        if (below(8) == 0) {
            t.setLength(below(t.length() + 1));
        }
        if (below(8) == 0) {
            t.append(")+a(".charAt(below(4)));
        }
        int calls = 0;
        for (int i = 0; i < t.length() && calls < left - 1; i++) {
            one(FEED, t.charAt(i), 0, 0, 0, 0, 0);
            calls++;
        }
        one(READ, 0, 0, 0, 0, 0, 0);
        return calls + 1;
    }

    private void grow(StringBuilder t, int parts) {
        if (parts == 1) {
            t.append((char) ('a' + below(below(6) == 0 ? 4 : 2)));
            return;
        }
        int split = below(3) == 0 ? 1 : in(1, parts - 1);
        t.append('(');
        grow(t, split);
        t.append(below(2) == 0 ? '+' : '|');
        grow(t, parts - split);
        t.append(')');
    }

    private int id() {
        return near(0, Math.max(0, m.count(0) - 1));
    }

    private int point() {
        return near(0, m.count(2) - 1);
    }

    private int wish() {
        return below(3) == 0 ? near(1, 999) : near(1, 30);
    }

    private int place() {
        return below(3) == 0 ? near(0, 19) : near(0, 6);
    }

    private void one(int op) {
        switch (op) {
            case 0: one(op, near(0, 3), near(0, 99), near(0, 50), 0, 0, 0); break;
            case 1: one(op, near(0, 3), near(0, 2), 0, 0, 0, 0); break;
            case 2: one(op, near(0, 3), 0, 0, 0, 0, 0); break;
            case 3: one(op, near(0, 1), id(), id(), 0, 0, 0); break;
            case 4: one(op, id(), near(0, 4), 0, 0, 0, 0); break;
            case 5: one(op, id(), near(0, 1), 0, 0, 0, 0); break;
            case 6: one(op, id(), near(0, 2), 0, 0, 0, 0); break;
            case 7: one(op, id(), 0, 0, 0, 0, 0); break;
            case 8: one(op, id(), below(2) == 0 ? in(-50, 50) : (int) (seed >>> 20), 0, 0, 0, 0); break;
            case 9: one(op, id(), (int) (seed >>> 20), near(1, 30), wish(), near(1, below(2) == 0 ? 3 : 999), near(0, 99)); break;
            case 10: case 11: one(op, id(), id(), 0, 0, 0, 0); break;
            case 12: one(op, id(), near(0, 5), near(0, 1), near(0, 1), 0, 0); break;
            case 13: one(op, id(), near(0, 1), 0, 0, 0, 0); break;
            case 14: case 15: one(op, near(32, 126), 0, 0, 0, 0, 0); break;
            case 16: case 35: case 36: one(op, 0, 0, 0, 0, 0, 0); break;
            case 17: one(op, id(), near(-1, 12), 0, 0, 0, 0); break;
            case 18: one(op, near(1, 4), 0, 0, 0, 0, 0); break;
            case 19: one(op, near(1, 4), below(2) == 0 ? near(0, 10) : near(0, 1200), near(0, 2), 0, 0, 0); break;
            case 20: case 22: one(op, wish(), below(2) == 0 ? near(1, 2) : wish(), 0, 0, 0, 0); break;
            case 21: one(op, wish(), wish(), near(1, 4), near(0, 2), 0, 0); break;
            case 23: one(op, below(4) == 0 ? near(2, 6) : 7, 0, 0, 0, 0, 0); break;
            case 24: one(op, point(), point(), near(1, 99), 0, 0, 0); break;
            case 25: one(op, near(0, Math.max(0, m.count(3) - 1)), near(0, below(3) == 0 ? 0 : 99), 0, 0, 0, 0); break;
            case 26: one(op, point(), point(), near(0, 1), 0, 0, 0); break;
            case 27: one(op, near(0, Math.max(0, m.count(3) - 1)), point(), point(), near(0, 1), 0, 0); break;
            case 28: case 29: one(op, point(), point(), 0, 0, 0, 0); break;
            case 30: one(op, point(), 0, 0, 0, 0, 0); break;
            case 31: one(op, near(0, 2), near(-1, 2), below(3) == 0 ? near(-1, 20) : near(4, 8), 0, 0, 0); break;
            case 32: one(op, near(0, 2), place(), below(9) == 0 ? -1 : id(), 0, 0, 0); break;
            case 33: one(op, near(0, 2), place(), 0, 0, 0, 0); break;
            case 34: one(op, near(0, 2), place(), near(0, 2), place(), near(0, 5), 0); break;
            default: one(37, near(0, 5), 0, 0, 0, 0, 0); break;
        }
    }

    private void one(int op, int p, int q, int r, int t, int u, int v) {
        long got = answer(op, p, q, r, t, u, v);
        long want = due(op, p, q, r, t, u, v);
        check.due(name + " op " + op + "(" + p + "," + q + "," + r + "," + t + "," + u + "," + v + ")", got, want);
    }

    private long answer(int op, int p, int q, int r, int t, int u, int v) {
        switch (op) {
            case 0: return x.sort(p, q, r);
            case 1: return x.ofSort(p, q);
            case 2: return x.part(p);
            case 3: return x.join(p, q, r);
            case 4: return x.net(p, q);
            case 5: return x.value(p, q);
            case 6: return x.ends(p, q);
            case 7: return x.shortly(p);
            case 8: return x.drawn(p, q);
            case 9: return x.within(p, q, r, t, u, v);
            case 10: return x.alike(p, q);
            case 11: return x.turned(p, q);
            case 12: return x.fails(p, q, r, t);
            case 13: return x.worst(p, q);
            case 14: case 15: return x.feed(p);
            case 16: return x.read();
            case 17: return x.print(p, q);
            case 18: return x.reached(p);
            case 19: return x.reach(p, q, r);
            case 20: return x.fewest(p, q);
            case 21: return x.nearest(p, q, r, t);
            case 22: return x.make(p, q);
            case 23: return x.points(p);
            case 24: return x.edge(p, q, r);
            case 25: return x.tell(p, q);
            case 26: return x.between(p, q, r);
            case 27: return x.without(p, q, r, t);
            case 28: return x.dearest(p, q);
            case 29: return x.bridges(p, q);
            case 30: return x.ways(p);
            case 31: return x.tray(p, q, r);
            case 32: return x.lay(p, q, r);
            case 33: return x.at(p, q);
            case 34: return x.shift(p, q, r, t, u);
            case 35: return x.image();
            case 36: return x.back();
            default: return x.count(p);
        }
    }

    private long due(int op, int p, int q, int r, int t, int u, int v) {
        switch (op) {
            case 0: return m.sort(p, q, r);
            case 1: return m.ofSort(p, q);
            case 2: return m.part(p);
            case 3: return m.join(p, q, r);
            case 4: return m.net(p, q);
            case 5: return m.value(p, q);
            case 6: return m.ends(p, q);
            case 7: return m.shortly(p);
            case 8: return m.drawn(p, q);
            case 9: return m.within(p, q, r, t, u, v);
            case 10: return m.alike(p, q);
            case 11: return m.turned(p, q);
            case 12: return m.fails(p, q, r, t);
            case 13: return m.worst(p, q);
            case 14: case 15: return m.feed(p);
            case 16: return m.read();
            case 17: return m.print(p, q);
            case 18: return m.reached(p);
            case 19: return m.reach(p, q, r);
            case 20: return m.fewest(p, q);
            case 21: return m.nearest(p, q, r, t);
            case 22: return m.make(p, q);
            case 23: return m.points(p);
            case 24: return m.edge(p, q, r);
            case 25: return m.tell(p, q);
            case 26: return m.between(p, q, r);
            case 27: return m.without(p, q, r, t);
            case 28: return m.dearest(p, q);
            case 29: return m.bridges(p, q);
            case 30: return m.ways(p);
            case 31: return m.tray(p, q, r);
            case 32: return m.lay(p, q, r);
            case 33: return m.at(p, q);
            case 34: return m.shift(p, q, r, t, u);
            case 35: return m.image();
            case 36: return m.back();
            default: return m.count(p);
        }
    }
}
