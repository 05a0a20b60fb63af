import java.math.BigInteger;
import java.util.ArrayList;
import java.util.HashMap;
import java.util.HashSet;
import java.util.List;
import java.util.Map;
import java.util.Set;

/** The document once more, by other means: recursion, unbounded numbers, Gauss, the library's bits. */
final class Model {
    static final int BAD = -1, NOT = -2, FULL = -3, STATE = -5, LONG = -7;
    static final long VOID = Long.MIN_VALUE;
    private static final BigInteger BILLION = BigInteger.valueOf(1000000000L);

    static final class TooLong extends RuntimeException {
        private static final long serialVersionUID = 1;
    }

    static final class Fault extends RuntimeException {
        private static final long serialVersionUID = 1;
        final int place;

        Fault(int place) {
            this.place = place;
        }
    }

    record Frac(BigInteger up, BigInteger down) {
        static Frac of(BigInteger up, BigInteger down) {
            BigInteger g = up.gcd(down);
            if (down.signum() < 0) {
                g = g.negate();
            }
            return new Frac(up.divide(g), down.divide(g));
        }

        static Frac of(long up, long down) {
            return of(BigInteger.valueOf(up), BigInteger.valueOf(down));
        }

        Frac plus(Frac o) {
            return of(up.multiply(o.down).add(o.up.multiply(down)), down.multiply(o.down));
        }

        Frac minus(Frac o) {
            return of(up.multiply(o.down).subtract(o.up.multiply(down)), down.multiply(o.down));
        }

        Frac times(Frac o) {
            return of(up.multiply(o.up), down.multiply(o.down));
        }

        Frac over(Frac o) {
            return of(up.multiply(o.down), down.multiply(o.up));
        }

        Frac size() {
            return new Frac(up.abs(), down);
        }

        boolean endless() {
            return down.signum() == 0;
        }

        int compare(Frac o) {
            if (endless() || o.endless()) {
                return Boolean.compare(endless(), o.endless());
            }
            return up.multiply(o.down).compareTo(o.up.multiply(down));
        }

        long side(int part) {
            return (part == 0 ? up : down).longValueExact();
        }

        boolean isLong() {
            return up.compareTo(BILLION) > 0 || down.compareTo(BILLION) > 0;
        }
    }

    static final class Net {
        int kind;
        int sort;
        Net first;
        Net second;

        int parts() {
            return kind == 0 ? 1 : first.parts() + second.parts();
        }
    }

    static final class Value {
        Frac worth;
        int how;
        int sort;
        Value x;
        Value y;
    }

    static final class Row {
        int kind;
        List<Net> places;
    }

    static final class State {
        int[] ohms = new int[4];
        int[] spread = new int[4];
        List<Net> nets = new ArrayList<>();
        int points = 4;
        List<int[]> edges = new ArrayList<>();
        Row[] trays = new Row[3];

        State copy() {
            State s = new State();
            s.ohms = ohms.clone();
            s.spread = spread.clone();
            s.nets = new ArrayList<>(nets);
            s.points = points;
            for (int[] e : edges) {
                s.edges.add(e.clone());
            }
            for (int i = 0; i < 3; i++) {
                if (trays[i] != null) {
                    s.trays[i] = new Row();
                    s.trays[i].kind = trays[i].kind;
                    s.trays[i].places = new ArrayList<>(trays[i].places);
                }
            }
            return s;
        }
    }

    State s = new State();
    State kept;
    StringBuilder tape = new StringBuilder();
    private int z;
    private int seen;

    private Net get(int id) {
        return id >= 0 && id < s.nets.size() ? s.nets.get(id) : null;
    }

    int sort(int sort, int ohms, int spread) {
        if (sort < 0 || sort > 3 || ohms < 0 || ohms > 99 || spread < 0 || spread > 50) return BAD;
        if (ohms == 0) {
            for (Net n : s.nets) if (n.kind == 0 && n.sort == sort) return STATE;
        }
        int old = s.ohms[sort];
        s.ohms[sort] = ohms;
        s.spread[sort] = spread;
        return old;
    }

    int ofSort(int sort, int what) {
        if (sort < 0 || sort > 3 || what < 0 || what > 2) return BAD;
        if (what == 2) {
            int many = 0;
            for (Net n : s.nets) if (n.kind == 0 && n.sort == sort) many++;
            return many;
        }
        return what == 0 ? s.ohms[sort] : s.spread[sort];
    }

    private int keep(int kind, int sort, Net first, Net second) {
        for (int i = 0; i < s.nets.size(); i++) {
            Net n = s.nets.get(i);
            if (n.kind == kind && (kind == 0 ? n.sort == sort : n.first == first && n.second == second)) return i;
        }
        if (s.nets.size() == 40) return FULL;
        Net n = new Net();
        n.kind = kind;
        n.sort = sort;
        n.first = first;
        n.second = second;
        s.nets.add(n);
        return s.nets.size() - 1;
    }

    int part(int sort) {
        if (sort < 0 || sort > 3) return BAD;
        if (s.ohms[sort] == 0) return STATE;
        return keep(0, sort, null, null);
    }

    int join(int how, int first, int second) {
        if (how < 0 || how > 1 || get(first) == null || get(second) == null) return BAD;
        if (get(first).parts() + get(second).parts() > 12) return LONG;
        return keep(how + 1, -1, get(first), get(second));
    }

    int net(int id, int what) {
        Net n = get(id);
        if (n == null || what < 0 || what > 4) return BAD;
        if (what == 0) return n.kind;
        if (what == 1) return n.kind == 0 ? n.sort : s.nets.indexOf(n.first);
        if (what == 2) return n.kind == 0 ? NOT : s.nets.indexOf(n.second);
        if (what == 3) return n.parts();
        int users = 0;
        for (Net o : s.nets) if (o.first == n || o.second == n) users++;
        return users;
    }

    private Frac worth(Net n, int failing, int how) {
        if (n.kind == 0) {
            int place = seen++;
            if (place == failing) return how == 0 ? Frac.of(1, 0) : Frac.of(0, 1);
            return Frac.of(s.ohms[n.sort], 1);
        }
        Frac a = worth(n.first, failing, how);
        Frac b = worth(n.second, failing, how);
        Frac r;
        if (n.kind == 1) {
            r = a.endless() || b.endless() ? Frac.of(1, 0) : a.plus(b);
        } else if (a.up.signum() == 0 || b.up.signum() == 0) {
            r = Frac.of(0, 1);
        } else if (a.endless()) {
            r = b;
        } else if (b.endless()) {
            r = a;
        } else {
            r = a.times(b).over(a.plus(b));
        }
        if (r.isLong()) throw new TooLong();
        return r;
    }

    private Frac worthOf(int id, int failing, int how) {
        seen = 0;
        return worth(get(id), failing, how);
    }

    long value(int id, int part) {
        if (get(id) == null || part < 0 || part > 1) return VOID;
        try {
            return worthOf(id, -1, 0).side(part);
        } catch (TooLong e) {
            return LONG;
        }
    }

    private double end(Net n, int what) {
        if (n.kind == 0) {
            int ohms = s.ohms[n.sort];
            int spread = s.spread[n.sort];
            if (what == 0) return ohms * (100 - spread) / 100.0;
            if (what == 1) return ohms * (100 + spread) / 100.0;
            return ohms;
        }
        double a = end(n.first, what);
        double b = end(n.second, what);
        return n.kind == 1 ? a + b : (a * b) / (a + b);
    }

    long ends(int id, int what) {
        if (get(id) == null || what < 0 || what > 2) return VOID;
        return Double.doubleToLongBits(end(get(id), what));
    }

    private float single(Net n, boolean draw) {
        if (n.kind == 0) {
            float ohms = s.ohms[n.sort];
            if (!draw) return ohms;
            z = z * 1103515245 + 12345;
            int u = (z >>> 16) % 201 - 100;
            float part = s.spread[n.sort] * u;
            return ohms + ohms * part / 10000.0f;
        }
        float a = single(n.first, draw);
        float b = single(n.second, draw);
        return n.kind == 1 ? a + b : 1.0f / (1.0f / a + 1.0f / b);
    }

    long shortly(int id) {
        return get(id) == null ? VOID : Float.floatToIntBits(single(get(id), false));
    }

    long drawn(int id, int from) {
        if (get(id) == null) return VOID;
        z = from;
        return Float.floatToIntBits(single(get(id), true));
    }

    int within(int id, int from, int m, int p, int q, int e) {
        if (get(id) == null || m < 1 || m > 30 || !wish(p, q) || e < 0 || e > 99) return BAD;
        z = from;
        int many = 0;
        float w = (float) p / (float) q;
        for (int i = 0; i < m; i++) {
            float d = single(get(id), true) - w;
            if (d < 0.0f) d = 0.0f - d;
            if (d * 100.0f <= w * (float) e) many++;
        }
        return many;
    }

    int alike(int one, int other) {
        if (get(one) == null || get(other) == null) return BAD;
        try {
            return worthOf(one, -1, 0).equals(worthOf(other, -1, 0)) ? 1 : 0;
        } catch (TooLong e) {
            return LONG;
        }
    }

    private static boolean same(Net a, Net b) {
        if (a.kind != b.kind) return false;
        if (a.kind == 0) return a.sort == b.sort;
        return same(a.first, b.first) && same(a.second, b.second)
            || same(a.first, b.second) && same(a.second, b.first);
    }

    int turned(int one, int other) {
        if (get(one) == null || get(other) == null) return BAD;
        return same(get(one), get(other)) ? 1 : 0;
    }

    long fails(int id, int place, int how, int part) {
        if (get(id) == null || place < 0 || place >= get(id).parts() || how < 0 || how > 1 || part < 0 || part > 1) {
            return VOID;
        }
        try {
            return worthOf(id, place, how).side(part);
        } catch (TooLong e) {
            return LONG;
        }
    }

    int worst(int id, int how) {
        if (get(id) == null || how < 0 || how > 1) return BAD;
        try {
            int best = 0;
            for (int i = 0; i < get(id).parts(); i++) {
                int c = worthOf(id, i, how).compare(worthOf(id, best, how));
                if (how == 0 ? c > 0 : c < 0) best = i;
            }
            return best;
        } catch (TooLong e) {
            return LONG;
        }
    }

    int feed(int letter) {
        if (letter < 32 || letter > 126) return BAD;
        if (tape.length() == 60) return FULL;
        tape.append((char) letter);
        return tape.length();
    }

    private final class Reader {
        int i;
        int parts;
        int open;

        Net text() {
            if (i == tape.length()) throw new Fault(i);
            char c = tape.charAt(i);
            Net n = new Net();
            if (c >= 'a' && c <= 'd' && s.ohms[c - 'a'] != 0 && parts < 12) {
                parts++;
                i++;
                n.sort = c - 'a';
                return n;
            }
            if (c != '(' || open == 11) throw new Fault(i);
            open++;
            i++;
            n.first = text();
            n.kind = "+|".indexOf(sign("+|")) + 1;
            n.second = text();
            sign(")");
            open--;
            return n;
        }

        char sign(String of) {
            if (i == tape.length() || of.indexOf(tape.charAt(i)) < 0) throw new Fault(i);
            return tape.charAt(i++);
        }
    }

    private int keepAll(Net n) {
        if (n.kind == 0) return keep(0, n.sort, null, null);
        int a = keepAll(n.first);
        if (a < 0) return a;
        int b = keepAll(n.second);
        if (b < 0) return b;
        return keep(n.kind, -1, get(a), get(b));
    }

    int read() {
        try {
            Reader r = new Reader();
            Net n = r.text();
            if (r.i < tape.length()) throw new Fault(r.i);
            return keepAll(n);
        } catch (Fault f) {
            return -100 - f.place;
        } finally {
            tape.setLength(0);
        }
    }

    private static String text(Net n) {
        if (n.kind == 0) return "" + (char) ('a' + n.sort);
        return "(" + text(n.first) + (n.kind == 1 ? "+" : "|") + text(n.second) + ")";
    }

    int print(int id, int i) {
        if (get(id) == null || i < -1) return BAD;
        String t = text(get(id));
        if (i == -1) return t.length();
        return i < t.length() ? t.charAt(i) : NOT;
    }

    private int[] builtFor;
    private List<List<Value>> built;

    private List<List<Value>> all() {
        if (builtFor != null && java.util.Arrays.equals(builtFor, s.ohms)) return built;
        builtFor = s.ohms.clone();
        built = new ArrayList<>();
        built.add(new ArrayList<>());
        Set<Frac> known = new HashSet<>();
        for (int n = 1; n <= 4; n++) {
            List<Value> level = new ArrayList<>();
            if (n == 1) {
                for (int i = 0; i < 4; i++) {
                    if (s.ohms[i] != 0) come(level, known, Frac.of(s.ohms[i], 1), 0, i, null, null);
                }
            }
            for (int k = 1; k <= n / 2; k++) {
                List<Value> xs = built.get(k);
                List<Value> ys = built.get(n - k);
                for (int i = 0; i < xs.size(); i++) {
                    for (int j = k == n - k ? i : 0; j < ys.size(); j++) {
                        Value x = xs.get(i);
                        Value y = ys.get(j);
                        Frac sum = x.worth.plus(y.worth);
                        come(level, known, sum, 1, 0, x, y);
                        come(level, known, x.worth.times(y.worth).over(sum), 2, 0, x, y);
                    }
                }
            }
            built.add(level);
        }
        return built;
    }

    private static void come(List<Value> level, Set<Frac> known, Frac worth, int how, int sort, Value x, Value y) {
        if (!known.add(worth)) return;
        Value v = new Value();
        v.worth = worth;
        v.how = how;
        v.sort = sort;
        v.x = x;
        v.y = y;
        level.add(v);
    }

    private static boolean wish(int p, int q) {
        return p >= 1 && p <= 999 && q >= 1 && q <= 999;
    }

    int reached(int n) {
        return n < 1 || n > 4 ? BAD : all().get(n).size();
    }

    private final Map<String, List<Value>> sorted = new HashMap<>();

    long reach(int n, int k, int what) {
        if (n < 1 || n > 4 || k < 0 || what < 0 || what > 2) return VOID;
        List<Value> level = all().get(n);
        if (k >= level.size()) return NOT;
        String key = n + java.util.Arrays.toString(s.ohms);
        List<Value> order = sorted.get(key);
        if (order == null) {
            order = new ArrayList<>(level);
            order.sort((a, b) -> a.worth.compare(b.worth));
            sorted.put(key, order);
        }
        Value v = order.get(k);
        if (what < 2) return v.worth.side(what);
        for (int i = 0; i < level.size(); i++) if (level.get(i).worth.equals(v.worth)) return i;
        return 77777;
    }

    int fewest(int p, int q) {
        if (!wish(p, q)) return BAD;
        for (int n = 1; n <= 4; n++) {
            for (Value v : all().get(n)) if (v.worth.equals(Frac.of(p, q))) return n;
        }
        return NOT;
    }

    long nearest(int p, int q, int n, int what) {
        if (!wish(p, q) || n < 1 || n > 4 || what < 0 || what > 2) return VOID;
        Frac wish = Frac.of(p, q);
        Value best = null;
        int parts = 0;
        for (int m = 1; m <= n; m++) {
            for (Value v : all().get(m)) {
                int c = best == null ? -1 : v.worth.minus(wish).size().compare(best.worth.minus(wish).size());
                if (c < 0 || c == 0 && m == parts && v.worth.compare(best.worth) < 0) {
                    best = v;
                    parts = m;
                }
            }
        }
        if (best == null) return NOT;
        return what == 2 ? parts : best.worth.side(what);
    }

    private int makeAll(Value v) {
        if (v.how == 0) return keep(0, v.sort, null, null);
        int a = makeAll(v.x);
        if (a < 0) return a;
        int b = makeAll(v.y);
        if (b < 0) return b;
        return keep(v.how, -1, get(a), get(b));
    }

    int make(int p, int q) {
        if (!wish(p, q)) return BAD;
        for (int n = 1; n <= 4; n++) {
            for (Value v : all().get(n)) if (v.worth.equals(Frac.of(p, q))) return makeAll(v);
        }
        return NOT;
    }

    int points(int n) {
        if (n < 2 || n > 6) return BAD;
        int old = s.points;
        s.points = n;
        s.edges.clear();
        return old;
    }

    private boolean point(int a) {
        return a >= 0 && a < s.points;
    }

    int edge(int a, int b, int ohms) {
        if (!point(a) || !point(b) || a == b || ohms < 1 || ohms > 99) return BAD;
        if (s.edges.size() == 8) return FULL;
        s.edges.add(new int[] {a, b, ohms});
        return s.edges.size() - 1;
    }

    int tell(int edge, int ohms) {
        if (edge < 0 || edge >= s.edges.size() || ohms < 0 || ohms > 99) return BAD;
        int old = s.edges.get(edge)[2];
        s.edges.get(edge)[2] = ohms;
        return old;
    }

    private void walk(int a, int skipped, boolean[] there) {
        if (there[a]) return;
        there[a] = true;
        for (int i = 0; i < s.edges.size(); i++) {
            int[] e = s.edges.get(i);
            if (i == skipped || e[2] == 0) continue;
            if (e[0] == a) walk(e[1], skipped, there);
            if (e[1] == a) walk(e[0], skipped, there);
        }
    }

    private boolean[] from(int a, int skipped) {
        boolean[] there = new boolean[6];
        walk(a, skipped, there);
        return there;
    }

    /** One ampere in at a, out at b, which is the ground: the potential of a. */
    private Frac resistance(int a, int b, int skipped) {
        if (a == b) return Frac.of(0, 1);
        boolean[] there = from(a, skipped);
        if (!there[b]) return Frac.of(1, 0);
        List<Integer> rows = new ArrayList<>();
        rows.add(a);
        for (int i = 0; i < 6; i++) if (there[i] && i != a && i != b) rows.add(i);
        int n = rows.size();
        Frac[][] m = new Frac[n][n + 1];
        for (Frac[] row : m) java.util.Arrays.fill(row, Frac.of(0, 1));
        m[0][n] = Frac.of(1, 1);
        for (int i = 0; i < s.edges.size(); i++) {
            int[] e = s.edges.get(i);
            if (i == skipped || e[2] == 0 || !there[e[0]]) continue;
            Frac g = Frac.of(1, e[2]);
            int u = rows.indexOf(e[0]);
            int v = rows.indexOf(e[1]);
            if (u >= 0) m[u][u] = m[u][u].plus(g);
            if (v >= 0) m[v][v] = m[v][v].plus(g);
            if (u >= 0 && v >= 0) {
                m[u][v] = m[u][v].minus(g);
                m[v][u] = m[v][u].minus(g);
            }
        }
        for (int c = n - 1; c > 0; c--) {
            for (int r = 0; r < c; r++) {
                Frac f = m[r][c].over(m[c][c]);
                for (int k = 0; k <= n; k++) m[r][k] = m[r][k].minus(f.times(m[c][k]));
            }
        }
        return m[0][n].over(m[0][0]);
    }

    long between(int a, int b, int part) {
        if (!point(a) || !point(b) || part < 0 || part > 1) return VOID;
        return resistance(a, b, -1).side(part);
    }

    long without(int edge, int a, int b, int part) {
        if (edge < 0 || edge >= s.edges.size() || !point(a) || !point(b) || part < 0 || part > 1) return VOID;
        return resistance(a, b, edge).side(part);
    }

    int dearest(int a, int b) {
        if (!point(a) || !point(b)) return BAD;
        if (s.edges.isEmpty()) return NOT;
        int best = 0;
        for (int i = 1; i < s.edges.size(); i++) {
            if (resistance(a, b, i).compare(resistance(a, b, best)) > 0) best = i;
        }
        return best;
    }

    int bridges(int a, int b) {
        if (!point(a) || !point(b)) return BAD;
        if (!from(a, -1)[b]) return STATE;
        int bits = 0;
        for (int i = 0; i < s.edges.size(); i++) if (!from(a, i)[b]) bits += 1 << i;
        return bits;
    }

    int ways(int a) {
        if (!point(a)) return BAD;
        int bits = 0;
        boolean[] there = from(a, -1);
        for (int i = 0; i < 6; i++) if (there[i]) bits += 1 << i;
        return bits;
    }

    int tray(int tray, int kind, int n) {
        if (tray < 0 || tray > 2 || kind < -1 || kind > 2) return BAD;
        if (kind == -1) {
            s.trays[tray] = null;
            return 1;
        }
        if (n > 20) return BAD;
        if (n < 0) return -14;
        Row row = new Row();
        row.kind = kind;
        row.places = new ArrayList<>();
        for (int i = 0; i < n; i++) row.places.add(null);
        s.trays[tray] = row;
        return 1;
    }

    private static boolean fits(Row row, Net n) {
        return n == null || row.kind == 0 || (row.kind == 1 ? n.kind == 0 : n.kind > 0);
    }

    int lay(int tray, int i, int id) {
        if (tray < 0 || tray > 2 || id < -1 || id >= s.nets.size()) return BAD;
        Row row = s.trays[tray];
        if (row == null) return -11;
        if (i < 0 || i >= row.places.size()) return -13;
        if (!fits(row, get(id))) return -12;
        row.places.set(i, get(id));
        return 1;
    }

    int at(int tray, int i) {
        if (tray < 0 || tray > 2) return BAD;
        Row row = s.trays[tray];
        if (row == null) return -11;
        if (i < 0 || i >= row.places.size()) return -13;
        Net n = row.places.get(i);
        return n == null ? NOT : s.nets.indexOf(n);
    }

    int shift(int tray, int i, int other, int j, int n) {
        if (tray < 0 || tray > 2 || other < 0 || other > 2) return BAD;
        Row from = s.trays[tray];
        Row to = s.trays[other];
        if (from == null || to == null) return -11;
        if (n < 0 || i < 0 || j < 0 || (long) i + n > from.places.size() || (long) j + n > to.places.size()) return -13;
        List<Net> before = new ArrayList<>(from.places);
        for (int k = 0; k < n; k++) {
            if (!fits(to, before.get(i + k))) return -12;
            to.places.set(j + k, before.get(i + k));
        }
        return n;
    }

    int image() {
        kept = s.copy();
        return s.nets.size();
    }

    int back() {
        if (kept == null) return STATE;
        s = kept.copy();
        return s.nets.size();
    }

    int count(int what) {
        switch (what) {
            case 0: return s.nets.size();
            case 1: return (int) java.util.Arrays.stream(s.ohms).filter(o -> o > 0).count();
            case 2: return s.points;
            case 3: return s.edges.size();
            case 4: return tape.length();
            case 5: return reached(1) + reached(2) + reached(3) + reached(4);
            default: return BAD;
        }
    }
}
