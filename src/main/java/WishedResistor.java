import java.util.Arrays;

/** Resistors wished for: nets of a few sorts of parts, what they are worth, and meshes with bridges. */
public final class WishedResistor {
    public static final int BAD = -1, NOT = -2, FULL = -3, STATE = -5, LONG = -7;
    public static final long VOID = Long.MIN_VALUE;

    private static final int MISSING = -11, OTHER_KIND = -12, OUTSIDE = -13, BELOW_ZERO = -14;
    private static final int FAULT_BASE = -100;
    private static final int NONE = -1;

    private static final int PART = 0, SERIES = 1, BESIDE = 2;
    private static final int LEAST = 0, GREATEST = 1;
    private static final int OPENED = 0, SHORTED = 1;

    private static final int MOST_SORTS = 4, MOST_OHMS = 99, MOST_SPREAD = 50;
    private static final int MOST_NETS = 40, MOST_PARTS = 12, MOST_STEPS = 2 * MOST_PARTS - 1;
    private static final int MOST_NUMBER = 1000000000;
    private static final int MOST_OPEN = 11, MOST_BYTES = 60;
    private static final int MOST_DRAWS = 30, MOST_HUNDREDTHS = 99, MOST_WISH = 999;
    private static final int MOST_LEVELS = 4;
    private static final int MOST_POINTS = 6, MOST_EDGES = 8;
    private static final int MOST_TRAYS = 3, MOST_PLACES = 20;

    private final Box box;
    private final Nets nets;
    private final Meter meter;
    private final Tape tape;
    private final Plan plan;
    private final Reached found;
    private final Mesh mesh;
    private final Tray[] trays;
    private final int[] moved;
    private final Image kept;

    public WishedResistor() {
        box = new Box();
        nets = new Nets();
        meter = new Meter(box, nets);
        tape = new Tape();
        plan = new Plan();
        found = new Reached(box);
        mesh = new Mesh();
        trays = new Tray[MOST_TRAYS];
        for (int i = 0; i < MOST_TRAYS; i++) {
            trays[i] = new Tray();
        }
        moved = new int[MOST_PLACES];
        kept = new Image();
    }

    // ---- the box

    public int sort(int sort, int ohms, int spread) {
        if (!isSort(sort) || !isIn(ohms, 0, MOST_OHMS) || !isIn(spread, 0, MOST_SPREAD)) {
            return BAD;
        }
        if (ohms == 0 && nets.partOf(sort) != NONE) {
            return STATE;
        }
        int before = box.ohms[sort];
        box.ohms[sort] = ohms;
        box.spread[sort] = spread;
        return before;
    }

    public int ofSort(int sort, int what) {
        if (!isSort(sort)) {
            return BAD;
        }
        switch (what) {
            case 0: return box.ohms[sort];
            case 1: return box.spread[sort];
            case 2: return nets.partOf(sort) == NONE ? 0 : 1;
            default: return BAD;
        }
    }

    // ---- nets

    public int part(int sort) {
        if (!isSort(sort)) {
            return BAD;
        }
        return box.has(sort) ? nets.keepPart(sort) : STATE;
    }

    public int join(int how, int first, int second) {
        if (!isIn(how, 0, 1) || !nets.has(first) || !nets.has(second)) {
            return BAD;
        }
        return nets.keepJoin(how == 0 ? SERIES : BESIDE, first, second);
    }

    public int net(int id, int what) {
        if (!nets.has(id)) {
            return BAD;
        }
        switch (what) {
            case 0: return nets.kind[id];
            case 1: return nets.first[id];
            case 2: return nets.kind[id] == PART ? NOT : nets.second[id];
            case 3: return nets.parts[id];
            case 4: return nets.usersOf(id);
            default: return BAD;
        }
    }

    public long value(int id, int part) {
        if (!nets.has(id) || !isIn(part, 0, 1)) {
            return VOID;
        }
        return meter.measure(id, NONE, OPENED) ? meter.worth.side(part) : LONG;
    }

    public long ends(int id, int what) {
        if (!nets.has(id) || !isIn(what, 0, 2)) {
            return VOID;
        }
        return bitsOfDouble(meter.endOf(id, what));
    }

    public long shortly(int id) {
        if (!nets.has(id)) {
            return VOID;
        }
        return bitsOfFloat(meter.floatOf(id, false));
    }

    public long drawn(int id, int z) {
        if (!nets.has(id)) {
            return VOID;
        }
        meter.seed = z;
        return bitsOfFloat(meter.floatOf(id, true));
    }

    public int within(int id, int z, int m, int p, int q, int e) {
        if (!nets.has(id) || !isIn(m, 1, MOST_DRAWS) || !isWish(p, q) || !isIn(e, 0, MOST_HUNDREDTHS)) {
            return BAD;
        }
        float wished = (float) p / (float) q;
        int hits = 0;
        meter.seed = z;
        for (int i = 0; i < m; i++) {
            float off = meter.floatOf(id, true) - wished;
            if (off < 0.0f) {
                off = 0.0f - off;
            }
            if (off * 100.0f <= wished * (float) e) {
                hits++;
            }
        }
        return hits;
    }

    public int alike(int one, int other) {
        if (!nets.has(one) || !nets.has(other)) {
            return BAD;
        }
        if (!meter.measure(one, NONE, OPENED)) {
            return LONG;
        }
        long above = meter.worth.above;
        long below = meter.worth.below;
        if (!meter.measure(other, NONE, OPENED)) {
            return LONG;
        }
        return above == meter.worth.above && below == meter.worth.below ? 1 : 0;
    }

    public int turned(int one, int other) {
        if (!nets.has(one) || !nets.has(other)) {
            return BAD;
        }
        return nets.areTurned(one, other) ? 1 : 0;
    }

    public long fails(int id, int place, int how, int part) {
        if (!nets.has(id) || place < 0 || place >= nets.parts[id] || !isIn(how, 0, 1) || !isIn(part, 0, 1)) {
            return VOID;
        }
        return meter.measure(id, place, how) ? meter.worth.side(part) : LONG;
    }

    public int worst(int id, int how) {
        if (!nets.has(id) || !isIn(how, 0, 1)) {
            return BAD;
        }
        return meter.worstPlace(id, how);
    }

    // ---- the tape

    public int feed(int letter) {
        return isIn(letter, 32, 126) ? tape.take(letter) : BAD;
    }

    public int read() {
        int fault = tape.faultOrPlan(box, plan);
        tape.length = 0;
        return fault == NONE ? nets.keepPlan(plan) : FAULT_BASE - fault;
    }

    public int print(int id, int i) {
        if (!nets.has(id) || i < -1) {
            return BAD;
        }
        int length = nets.spell(id);
        if (i == -1) {
            return length;
        }
        return i < length && i < nets.letters.length ? nets.letters[i] : NOT;
    }

    // ---- what few parts reach

    public int reached(int n) {
        if (!isIn(n, 1, MOST_LEVELS)) {
            return BAD;
        }
        found.build(n);
        return found.start[n + 1] - found.start[n];
    }

    public long reach(int n, int k, int what) {
        if (!isIn(n, 1, MOST_LEVELS) || k < 0 || !isIn(what, 0, 2)) {
            return VOID;
        }
        int index = found.bySize(n, k);
        if (index == NONE) {
            return NOT;
        }
        return what == 2 ? index - found.start[n] : found.side(index, what);
    }

    public int fewest(int p, int q) {
        if (!isWish(p, q)) {
            return BAD;
        }
        int index = found.indexOf(p, q);
        return index == NONE ? NOT : found.partsOf(index);
    }

    public long nearest(int p, int q, int n, int what) {
        if (!isWish(p, q) || !isIn(n, 1, MOST_LEVELS) || !isIn(what, 0, 2)) {
            return VOID;
        }
        int index = found.nearestTo(p, q, n);
        if (index == NONE) {
            return NOT;
        }
        return what == 2 ? found.partsOf(index) : found.side(index, what);
    }

    public int make(int p, int q) {
        if (!isWish(p, q)) {
            return BAD;
        }
        int index = found.indexOf(p, q);
        if (index == NONE) {
            return NOT;
        }
        plan.fill(index, found.partsOf(index), found.kind, found.first, found.second);
        return nets.keepPlan(plan);
    }

    // ---- the mesh

    public int points(int n) {
        if (!isIn(n, 2, MOST_POINTS)) {
            return BAD;
        }
        int before = mesh.points;
        mesh.points = n;
        mesh.edges = 0;
        return before;
    }

    public int edge(int a, int b, int ohms) {
        if (!mesh.has(a) || !mesh.has(b) || a == b || !isIn(ohms, 1, MOST_OHMS)) {
            return BAD;
        }
        return mesh.put(a, b, ohms);
    }

    public int tell(int edge, int ohms) {
        if (!mesh.hasEdge(edge) || !isIn(ohms, 0, MOST_OHMS)) {
            return BAD;
        }
        int before = mesh.ohms[edge];
        mesh.ohms[edge] = ohms;
        return before;
    }

    public long between(int a, int b, int part) {
        if (!mesh.has(a) || !mesh.has(b) || !isIn(part, 0, 1)) {
            return VOID;
        }
        mesh.measure(a, b, NONE);
        return mesh.worth.side(part);
    }

    public long without(int edge, int a, int b, int part) {
        if (!mesh.hasEdge(edge) || !mesh.has(a) || !mesh.has(b) || !isIn(part, 0, 1)) {
            return VOID;
        }
        mesh.measure(a, b, edge);
        return mesh.worth.side(part);
    }

    public int dearest(int a, int b) {
        if (!mesh.has(a) || !mesh.has(b)) {
            return BAD;
        }
        return mesh.edges == 0 ? NOT : mesh.dearestEdge(a, b);
    }

    public int bridges(int a, int b) {
        if (!mesh.has(a) || !mesh.has(b)) {
            return BAD;
        }
        return mesh.isWay(a, b, NONE) ? mesh.bridgesOf(a, b) : STATE;
    }

    public int ways(int a) {
        return mesh.has(a) ? mesh.pointsFrom(a, mesh.closedEdges(NONE)) : BAD;
    }

    // ---- trays

    public int tray(int tray, int kind, int n) {
        if (!isTray(tray) || !isIn(kind, -1, 2)) {
            return BAD;
        }
        if (kind == NONE) {
            trays[tray].become(NONE, 0);
            return 1;
        }
        if (n > MOST_PLACES) {
            return BAD;
        }
        if (n < 0) {
            return BELOW_ZERO;
        }
        trays[tray].become(kind, n);
        return 1;
    }

    public int lay(int tray, int i, int id) {
        if (!isTray(tray) || (id != NONE && !nets.has(id))) {
            return BAD;
        }
        Tray row = trays[tray];
        if (row.isMissing()) {
            return MISSING;
        }
        if (!row.hasPlace(i)) {
            return OUTSIDE;
        }
        if (!row.fits(nets, id)) {
            return OTHER_KIND;
        }
        row.places[i] = id;
        return 1;
    }

    public int at(int tray, int i) {
        if (!isTray(tray)) {
            return BAD;
        }
        Tray row = trays[tray];
        if (row.isMissing()) {
            return MISSING;
        }
        if (!row.hasPlace(i)) {
            return OUTSIDE;
        }
        return row.places[i] == NONE ? NOT : row.places[i];
    }

    public int shift(int tray, int i, int other, int j, int n) {
        if (!isTray(tray) || !isTray(other)) {
            return BAD;
        }
        Tray from = trays[tray];
        Tray to = trays[other];
        if (from.isMissing() || to.isMissing()) {
            return MISSING;
        }
        if (!from.hasStretch(i, n) || !to.hasStretch(j, n)) {
            return OUTSIDE;
        }
        // A tray may be shifted onto itself, so what comes is looked at before anything goes.
        System.arraycopy(from.places, i, moved, 0, n);
        for (int k = 0; k < n; k++) {
            if (!to.fits(nets, moved[k])) {
                return OTHER_KIND;
            }
            to.places[j + k] = moved[k];
        }
        return n;
    }

    // ---- the image

    public int image() {
        kept.take(box, nets, mesh, trays);
        return nets.count;
    }

    public int back() {
        if (!kept.isTaken) {
            return STATE;
        }
        kept.give(box, nets, mesh, trays);
        return nets.count;
    }

    public int count(int what) {
        switch (what) {
            case 0: return nets.count;
            case 1: return box.sortsThere();
            case 2: return mesh.points;
            case 3: return mesh.edges;
            case 4: return tape.length;
            case 5:
                found.build(MOST_LEVELS);
                return found.start[MOST_LEVELS + 1];
            default: return BAD;
        }
    }

    // ---- numbers

    private static boolean isIn(int number, int least, int most) {
        return number >= least && number <= most;
    }

    private static boolean isSort(int sort) {
        return sort >= 0 && sort < MOST_SORTS;
    }

    private static boolean isWish(int p, int q) {
        return isIn(p, 1, MOST_WISH) && isIn(q, 1, MOST_WISH);
    }

    private static boolean isTray(int tray) {
        return tray >= 0 && tray < MOST_TRAYS;
    }

    private static long greatestDivisor(long one, long other) {
        long a = one;
        long b = other;
        // Euclid needs fewer than 100 steps for any two longs.
        for (int i = 0; i < 200 && b != 0; i++) {
            long rest = a % b;
            a = b;
            b = rest;
        }
        return a;
    }

    /** The bits by arithmetic, as the library's own functions are ruled out; all that comes here is above 0. */
    private static long bitsOfDouble(double number) {
        double left = number;
        long exponent = 1023;
        for (int i = 0; i < 1100 && left >= 2.0; i++) {
            left = left / 2.0;
            exponent++;
        }
        for (int i = 0; i < 1100 && left < 1.0; i++) {
            left = left * 2.0;
            exponent--;
        }
        return (exponent << 52) | (long) ((left - 1.0) * 4503599627370496.0);
    }

    private static long bitsOfFloat(float number) {
        float left = number;
        int exponent = 127;
        for (int i = 0; i < 200 && left >= 2.0f; i++) {
            left = left / 2.0f;
            exponent++;
        }
        for (int i = 0; i < 200 && left < 1.0f; i++) {
            left = left * 2.0f;
            exponent--;
        }
        return (exponent << 23) | (int) ((left - 1.0f) * 8388608.0f);
    }

    /** A fraction in lowest terms, from 0 by 1 up to 1 by 0. */
    private static final class Fraction {
        long above;
        long below = 1;

        void become(long top, long bottom) {
            long divisor = greatestDivisor(top, bottom);
            if (divisor == 0) {
                divisor = 1;
            }
            above = top / divisor;
            below = bottom / divisor;
        }

        void copy(Fraction other) {
            above = other.above;
            below = other.below;
        }

        long side(int part) {
            return part == 0 ? above : below;
        }

        boolean isLong() {
            return above > MOST_NUMBER || below > MOST_NUMBER;
        }

        void addInSeries(Fraction other) {
            if (below == 0 || other.below == 0) {
                become(1, 0);
            } else {
                become(above * other.below + other.above * below, below * other.below);
            }
        }

        void addBeside(Fraction other) {
            if (above == 0 || other.above == 0) {
                become(0, 1);
            } else if (below == 0) {
                copy(other);
            } else if (other.below != 0) {
                become(above * other.above, above * other.below + other.above * below);
            }
        }

        /** Below 0 where this is less, above 0 where it is greater. */
        int against(Fraction other) {
            if (below == 0 || other.below == 0) {
                return (below == 0 ? 1 : 0) - (other.below == 0 ? 1 : 0);
            }
            // A mesh's numbers are too great to be multiplied crosswise, so whole parts are
            // compared, then what is left over turned upside down.
            long a = above;
            long b = below;
            long c = other.above;
            long d = other.below;
            int sign = 1;
            for (int i = 0; i < 200 && b != 0 && d != 0; i++) {
                long whole = a / b;
                long otherWhole = c / d;
                if (whole != otherWhole) {
                    return whole < otherWhole ? -sign : sign;
                }
                long rest = a % b;
                long otherRest = c % d;
                a = b;
                b = rest;
                c = d;
                d = otherRest;
                sign = -sign;
            }
            // What has no rest left is 1 by 0 upside down, so it is the greater one there.
            if (b == d) {
                return 0;
            }
            return b == 0 ? sign : -sign;
        }
    }

    /** The sorts of parts. */
    private static final class Box {
        final int[] ohms = new int[MOST_SORTS];
        final int[] spread = new int[MOST_SORTS];

        boolean has(int sort) {
            return isSort(sort) && ohms[sort] != 0;
        }

        int sortsThere() {
            int there = 0;
            for (int i = 0; i < MOST_SORTS; i++) {
                if (ohms[i] != 0) {
                    there++;
                }
            }
            return there;
        }

        void copy(Box other) {
            System.arraycopy(other.ohms, 0, ohms, 0, MOST_SORTS);
            System.arraycopy(other.spread, 0, spread, 0, MOST_SORTS);
        }
    }

    /** The nets, one of a kind once; first and second of a join stand ahead of it, first of a part is its sort. */
    private static final class Nets {
        final int[] kind = new int[MOST_NETS];
        final int[] first = new int[MOST_NETS];
        final int[] second = new int[MOST_NETS];
        final int[] parts = new int[MOST_NETS];
        int count;
        final int[] likes = new int[MOST_NETS];
        final int[] letters = new int[MOST_PARTS + 3 * (MOST_PARTS - 1)];
        final int[] waiting = new int[5 * MOST_PARTS];
        final int[] made = new int[MOST_PARTS];

        boolean has(int id) {
            return id >= 0 && id < count && id < MOST_NETS;
        }

        int find(int what, int one, int other) {
            for (int i = 0; i < count; i++) {
                if (kind[i] == what && first[i] == one && second[i] == other) {
                    return i;
                }
            }
            return NONE;
        }

        int partOf(int sort) {
            return find(PART, sort, NONE);
        }

        int keepPart(int sort) {
            int there = partOf(sort);
            return there == NONE ? add(PART, sort, NONE, 1) : there;
        }

        int keepJoin(int what, int one, int other) {
            int size = parts[one] + parts[other];
            if (size > MOST_PARTS) {
                return LONG;
            }
            int there = find(what, one, other);
            return there == NONE ? add(what, one, other, size) : there;
        }

        private int add(int what, int one, int other, int size) {
            if (count >= MOST_NETS) {
                return FULL;
            }
            kind[count] = what;
            first[count] = one;
            second[count] = other;
            parts[count] = size;
            count++;
            return count - 1;
        }

        /** The ID of what the last step makes, or the refusal of the step that can't be kept. */
        int keepPlan(Plan plan) {
            int height = 0;
            for (int i = 0; i < plan.length; i++) {
                int id = NONE;
                if (plan.kind[i] == PART) {
                    id = keepPart(plan.sort[i]);
                } else if (height >= 2) {
                    height -= 2;
                    id = keepJoin(plan.kind[i], made[height], made[height + 1]);
                }
                if (id < 0 || height >= MOST_PARTS) {
                    return id;
                }
                made[height] = id;
                height++;
            }
            return made[0];
        }

        int usersOf(int id) {
            int users = 0;
            for (int i = 0; i < count; i++) {
                if (kind[i] != PART && (first[i] == id || second[i] == id)) {
                    users++;
                }
            }
            return users;
        }

        boolean areTurned(int one, int other) {
            // What is below a net stands ahead of it, so one way through the row finds for each
            // the first one that is the same but for turning.
            for (int i = 0; i < count; i++) {
                int like = i;
                for (int k = 0; k < i && like == i; k++) {
                    if (isTurn(k, i)) {
                        like = likes[k];
                    }
                }
                likes[i] = like;
            }
            return likes[one] == likes[other];
        }

        private boolean isTurn(int one, int other) {
            if (kind[one] != kind[other] || kind[one] == PART) {
                return false;
            }
            int left = likes[first[one]];
            int right = likes[second[one]];
            int otherLeft = likes[first[other]];
            int otherRight = likes[second[other]];
            return (left == otherLeft && right == otherRight) || (left == otherRight && right == otherLeft);
        }

        /** Fills letters with what the net is printed as: how many. */
        int spell(int id) {
            int length = 0;
            int open = 1;
            waiting[0] = id;
            // What waits is an ID, or a sign turned below 0.
            for (int i = 0; i < letters.length * 2 && open > 0; i++) {
                open--;
                int next = waiting[open];
                if (next >= 0 && kind[next] != PART) {
                    open = openBrackets(next, open);
                } else if (length < letters.length) {
                    letters[length] = next < 0 ? -next : 'a' + first[next];
                    length++;
                }
            }
            return length;
        }

        private int openBrackets(int id, int open) {
            if (open + 5 > waiting.length) {
                return open;
            }
            waiting[open] = -')';
            waiting[open + 1] = second[id];
            waiting[open + 2] = kind[id] == SERIES ? -'+' : -'|';
            waiting[open + 3] = first[id];
            waiting[open + 4] = -'(';
            return open + 5;
        }

        void copy(Nets other) {
            System.arraycopy(other.kind, 0, kind, 0, MOST_NETS);
            System.arraycopy(other.first, 0, first, 0, MOST_NETS);
            System.arraycopy(other.second, 0, second, 0, MOST_NETS);
            System.arraycopy(other.parts, 0, parts, 0, MOST_NETS);
            count = other.count;
        }
    }

    /** A net as a row of steps: all of FIRST, all of SECOND, then the join itself. */
    private static final class Plan {
        final int[] kind = new int[MOST_STEPS];
        final int[] sort = new int[MOST_STEPS];
        int length;
        final int[] waiting = new int[MOST_STEPS + 1];

        void add(int what, int ofSort) {
            if (length < MOST_STEPS) {
                kind[length] = what;
                sort[length] = ofSort;
                length++;
            }
        }

        /** The steps of what stands at root in rows of joins, where first of a part is its sort. */
        void fill(int root, int parts, int[] kinds, int[] first, int[] second) {
            length = parts > MOST_PARTS ? 0 : 2 * parts - 1;
            int open = 1;
            waiting[0] = root;
            // From the right, as a join comes behind both of its own.
            for (int step = length - 1; step >= 0 && open > 0; step--) {
                open--;
                int next = waiting[open];
                kind[step] = kinds[next];
                sort[step] = first[next];
                if (kinds[next] != PART && open + 2 <= waiting.length) {
                    waiting[open] = first[next];
                    waiting[open + 1] = second[next];
                    open += 2;
                }
            }
        }
    }

    /** What a net is worth, in each of the ways of reckoning. */
    private static final class Meter {
        final Box box;
        final Nets nets;
        final Plan plan = new Plan();
        final Fraction[] fractions = new Fraction[MOST_PARTS];
        final double[] doubles = new double[MOST_PARTS];
        final float[] floats = new float[MOST_PARTS];
        final Fraction worth = new Fraction();
        final Fraction worst = new Fraction();
        int seed;

        Meter(Box itsBox, Nets itsNets) {
            box = itsBox;
            nets = itsNets;
            for (int i = 0; i < MOST_PARTS; i++) {
                fractions[i] = new Fraction();
            }
        }

        private void walk(int id) {
            plan.fill(id, nets.parts[id], nets.kind, nets.first, nets.second);
        }

        /** Leaves the value in worth; false where it is LONG. */
        boolean measure(int id, int failing, int how) {
            walk(id);
            return measureWalk(failing, how);
        }

        private boolean measureWalk(int failing, int how) {
            int height = 0;
            int place = 0;
            for (int i = 0; i < plan.length; i++) {
                int kind = plan.kind[i];
                if (kind == PART && height < MOST_PARTS) {
                    putPart(fractions[height], plan.sort[i], place == failing, how);
                    height++;
                    place++;
                } else if (height >= 2) {
                    height--;
                    Fraction sum = fractions[height - 1];
                    if (kind == SERIES) {
                        sum.addInSeries(fractions[height]);
                    } else {
                        sum.addBeside(fractions[height]);
                    }
                    if (sum.isLong()) {
                        return false;
                    }
                }
            }
            worth.copy(fractions[0]);
            return true;
        }

        private void putPart(Fraction to, int sort, boolean hasFailed, int how) {
            if (!hasFailed) {
                to.become(box.ohms[sort], 1);
            } else if (how == SHORTED) {
                to.become(0, 1);
            } else {
                to.become(1, 0);
            }
        }

        int worstPlace(int id, int how) {
            walk(id);
            int found = 0;
            for (int place = 0; place < nets.parts[id]; place++) {
                if (!measureWalk(place, how)) {
                    return LONG;
                }
                int order = worth.against(worst);
                if (place == 0 || (how == OPENED ? order > 0 : order < 0)) {
                    found = place;
                    worst.copy(worth);
                }
            }
            return found;
        }

        double endOf(int id, int what) {
            walk(id);
            int height = 0;
            for (int i = 0; i < plan.length; i++) {
                int kind = plan.kind[i];
                if (kind == PART && height < MOST_PARTS) {
                    doubles[height] = endOfPart(plan.sort[i], what);
                    height++;
                } else if (height >= 2) {
                    height--;
                    double a = doubles[height - 1];
                    double b = doubles[height];
                    doubles[height - 1] = kind == SERIES ? a + b : (a * b) / (a + b);
                }
            }
            return doubles[0];
        }

        private double endOfPart(int sort, int what) {
            int ohms = box.ohms[sort];
            if (what == LEAST) {
                return ohms * (100 - box.spread[sort]) / 100.0;
            }
            return what == GREATEST ? ohms * (100 + box.spread[sort]) / 100.0 : (double) ohms;
        }

        /** By floats; where parts are drawn the seed goes on. */
        float floatOf(int id, boolean isDrawn) {
            walk(id);
            int height = 0;
            for (int i = 0; i < plan.length; i++) {
                int kind = plan.kind[i];
                if (kind == PART && height < MOST_PARTS) {
                    int sort = plan.sort[i];
                    floats[height] = isDrawn ? drawPart(sort) : (float) box.ohms[sort];
                    height++;
                } else if (height >= 2) {
                    height--;
                    float a = floats[height - 1];
                    float b = floats[height];
                    floats[height - 1] = kind == SERIES ? a + b : 1.0f / (1.0f / a + 1.0f / b);
                }
            }
            return floats[0];
        }

        private float drawPart(int sort) {
            seed = seed * 1103515245 + 12345;
            int u = (seed >>> 16) % 201 - 100;
            float ohms = (float) box.ohms[sort];
            return ohms + ohms * (float) (box.spread[sort] * u) / 10000.0f;
        }
    }

    /** The bytes of a text, and what of it is at fault. */
    private static final class Tape {
        final int[] letters = new int[MOST_BYTES];
        int length;
        final int[] joins = new int[MOST_OPEN];

        int take(int letter) {
            if (length >= MOST_BYTES) {
                return FULL;
            }
            letters[length] = letter;
            length++;
            return length;
        }

        /** The first byte that can't stand where it is, or none, and the plan is what the text says. */
        int faultOrPlan(Box box, Plan plan) {
            plan.length = 0;
            int open = 0;
            int parts = 0;
            boolean isTextDue = true;
            for (int i = 0; i < length; i++) {
                int letter = letters[i];
                if (isTextDue && letter == '(' && open < MOST_OPEN) {
                    joins[open] = NONE;
                    open++;
                } else if (isTextDue && box.has(letter - 'a') && parts < MOST_PARTS) {
                    plan.add(PART, letter - 'a');
                    parts++;
                    isTextDue = false;
                } else if (isTextDue || open == 0) {
                    return i;
                } else if (joins[open - 1] == NONE && joinOf(letter) != NONE) {
                    joins[open - 1] = joinOf(letter);
                    isTextDue = true;
                } else if (joins[open - 1] != NONE && letter == ')') {
                    open--;
                    plan.add(joins[open], NONE);
                } else {
                    return i;
                }
            }
            return isTextDue || open > 0 ? length : NONE;
        }

        private static int joinOf(int letter) {
            return letter == '+' ? SERIES : letter == '|' ? BESIDE : NONE;
        }
    }

    /** The values that few parts reach, in the order in which they come, each with what it is made of. */
    private static final class Reached {
        // 4, then 10 pairs twice, then 4 by 20 twice, then 4 by 160 twice and 210 pairs of those by two, twice.
        private static final int MOST_VALUES = 4 + 20 + 160 + 1280 + 420;
        private static final int TABLE_SIZE = 4096;

        final Box box;
        final int[] above = new int[MOST_VALUES];
        final int[] below = new int[MOST_VALUES];
        final int[] kind = new int[MOST_VALUES];
        final int[] first = new int[MOST_VALUES];
        final int[] second = new int[MOST_VALUES];
        final int[] order = new int[MOST_VALUES];
        final int[] merged = new int[MOST_VALUES];
        final int[] table = new int[TABLE_SIZE];
        final int[] start = new int[MOST_LEVELS + 2];
        final int[] builtFor = new int[MOST_SORTS];
        int size;
        int levels;
        int levelsInOrder;

        Reached(Box itsBox) {
            box = itsBox;
        }

        /** Sees to it that all that n parts or fewer reach stands in the rows, for the box as it is. */
        void build(int n) {
            if (!isBuiltForBox()) {
                System.arraycopy(box.ohms, 0, builtFor, 0, MOST_SORTS);
                Arrays.fill(table, 0);
                size = 0;
                levels = 0;
                levelsInOrder = 0;
            }
            for (int level = levels + 1; level <= n && level <= MOST_LEVELS; level++) {
                start[level] = size;
                if (level == 1) {
                    addParts();
                }
                for (int k = 1; k <= level / 2; k++) {
                    addPairs(k, level - k);
                }
                start[level + 1] = size;
                levels = level;
            }
        }

        private boolean isBuiltForBox() {
            for (int i = 0; i < MOST_SORTS; i++) {
                if (builtFor[i] != box.ohms[i]) {
                    return false;
                }
            }
            return true;
        }

        private void addParts() {
            for (int i = 0; i < MOST_SORTS; i++) {
                if (box.has(i)) {
                    add(box.ohms[i], 1, PART, i, NONE);
                }
            }
        }

        private void addPairs(int k, int rest) {
            for (int x = start[k]; x < start[k + 1]; x++) {
                for (int y = k == rest ? x : start[rest]; y < start[rest + 1]; y++) {
                    long crosswise = (long) above[x] * below[y] + (long) above[y] * below[x];
                    add(crosswise, (long) below[x] * below[y], SERIES, x, y);
                    add((long) above[x] * above[y], crosswise, BESIDE, x, y);
                }
            }
        }

        private void add(long top, long bottom, int what, int one, int other) {
            long divisor = greatestDivisor(top, bottom);
            if (divisor == 0) {
                return;
            }
            // In lowest terms four parts' numbers are at most 99 to the fourth, so they are ints.
            int lowTop = (int) (top / divisor);
            int lowBottom = (int) (bottom / divisor);
            int slot = slotOf(lowTop, lowBottom);
            if (table[slot] != 0 || size >= MOST_VALUES) {
                return;
            }
            above[size] = lowTop;
            below[size] = lowBottom;
            kind[size] = what;
            first[size] = one;
            second[size] = other;
            size++;
            table[slot] = size;
        }

        /** Where in the table the value stands (its index and one more), or would stand. */
        private int slotOf(int top, int bottom) {
            int mixed = top * 40503 + bottom * 30011;
            int slot = (mixed ^ (mixed >>> 13)) & (TABLE_SIZE - 1);
            for (int i = 0; i < TABLE_SIZE; i++) {
                int index = table[slot] - 1;
                if (index < 0 || (above[index] == top && below[index] == bottom)) {
                    return slot;
                }
                slot = (slot + 1) & (TABLE_SIZE - 1);
            }
            return slot;
        }

        int side(int index, int part) {
            return part == 0 ? above[index] : below[index];
        }

        int partsOf(int index) {
            for (int n = 1; n < levels; n++) {
                if (index < start[n + 1]) {
                    return n;
                }
            }
            return levels;
        }

        /** The index of a value, if four parts or fewer reach it. */
        int indexOf(int p, int q) {
            int divisor = (int) greatestDivisor(p, q);
            if (divisor == 0) {
                return NONE;
            }
            for (int n = 1; n <= MOST_LEVELS; n++) {
                build(n);
                int held = table[slotOf(p / divisor, q / divisor)];
                if (held != 0) {
                    return held - 1;
                }
            }
            return NONE;
        }

        /** The index of the k-th by size of those by n parts and no fewer. */
        int bySize(int n, int k) {
            build(n);
            if (k < 0 || k >= start[n + 1] - start[n]) {
                return NONE;
            }
            if ((levelsInOrder >> n & 1) == 0) {
                putInOrder(start[n], start[n + 1]);
                levelsInOrder |= 1 << n;
            }
            return order[start[n] + k];
        }

        private void putInOrder(int from, int to) {
            for (int i = from; i < to; i++) {
                order[i] = i;
            }
            for (int width = 1; width < to - from; width *= 2) {
                for (int low = from; low < to; low += 2 * width) {
                    merge(low, Math.min(low + width, to), Math.min(low + 2 * width, to));
                }
                System.arraycopy(merged, from, order, from, to - from);
            }
        }

        private void merge(int low, int middle, int high) {
            int left = low;
            int right = middle;
            for (int i = low; i < high; i++) {
                if (right >= high || (left < middle && isLess(order[left], order[right]))) {
                    merged[i] = order[left];
                    left++;
                } else {
                    merged[i] = order[right];
                    right++;
                }
            }
        }

        private boolean isLess(int one, int other) {
            return (long) above[one] * below[other] < (long) above[other] * below[one];
        }

        int nearestTo(int p, int q, int n) {
            build(n);
            int best = NONE;
            long bestOff = 0;
            for (int i = 0; i < start[n + 1]; i++) {
                long off = Math.abs((long) above[i] * q - (long) below[i] * p);
                if (best == NONE || isNearer(i, off, best, bestOff)) {
                    best = i;
                    bestOff = off;
                }
            }
            return best;
        }

        /** How far off it is stands there by q times below: crosswise it is below 10 to the 18th. */
        private boolean isNearer(int one, long off, int other, long otherOff) {
            long mine = off * below[other];
            long its = otherOff * below[one];
            if (mine != its) {
                return mine < its;
            }
            return partsOf(one) == partsOf(other) && isLess(one, other);
        }
    }

    /** Points, and the edges between them. */
    private static final class Mesh {
        int points = 4;
        int edges;
        final int[] one = new int[MOST_EDGES];
        final int[] other = new int[MOST_EDGES];
        final int[] ohms = new int[MOST_EDGES];
        final int[] trees = new int[MOST_POINTS];
        final Fraction worth = new Fraction();
        final Fraction best = new Fraction();

        boolean has(int point) {
            return point >= 0 && point < points && point < MOST_POINTS;
        }

        boolean hasEdge(int edge) {
            return edge >= 0 && edge < edges && edge < MOST_EDGES;
        }

        int put(int a, int b, int itsOhms) {
            if (edges >= MOST_EDGES) {
                return FULL;
            }
            one[edges] = a;
            other[edges] = b;
            ohms[edges] = itsOhms;
            edges++;
            return edges - 1;
        }

        int closedEdges(int opened) {
            int closed = 0;
            for (int i = 0; i < edges; i++) {
                if (ohms[i] != 0 && i != opened) {
                    closed |= 1 << i;
                }
            }
            return closed;
        }

        int pointsFrom(int a, int closed) {
            int found = 1 << a;
            for (int round = 1; round < points; round++) {
                for (int i = 0; i < edges; i++) {
                    int both = 1 << one[i] | 1 << other[i];
                    if ((closed >> i & 1) != 0 && (found & both) != 0) {
                        found |= both;
                    }
                }
            }
            return found;
        }

        boolean isWay(int a, int b, int opened) {
            return (pointsFrom(a, closedEdges(opened)) >> b & 1) != 0;
        }

        /** Leaves in worth what lies between two points, one edge being open (or none). */
        void measure(int a, int b, int opened) {
            if (a == b) {
                worth.become(0, 1);
            } else if (!isWay(a, b, opened)) {
                worth.become(1, 0);
            } else {
                measureWay(a, b, closedEdges(opened));
            }
        }

        /**
         * By Kirchhoff: below the line the sum over all trees on the points, above it over all
         * pairs of trees that part a from b, each adding the product of the ohms left out. So
         * nothing is divided, and no number goes above 99 to the eighth.
         */
        private void measureWay(int a, int b, int closed) {
            int island = pointsFrom(a, closed);
            int inPlay = edgesOn(island, closed);
            int branches = Integer.bitCount(island) - 1;
            long above = 0;
            long below = 0;
            for (int chosen = 0; chosen <= inPlay; chosen++) {
                int many = Integer.bitCount(chosen);
                boolean isCandidate = (chosen & ~inPlay) == 0 && (many == branches || many == branches - 1);
                if (isCandidate && isForest(chosen)) {
                    if (many == branches) {
                        below += ohmsOf(inPlay & ~chosen);
                    } else if (trees[a] != trees[b]) {
                        above += ohmsOf(inPlay & ~chosen);
                    }
                }
            }
            worth.become(above, below);
        }

        private int edgesOn(int island, int closed) {
            int on = 0;
            for (int i = 0; i < edges; i++) {
                if ((closed >> i & 1) != 0 && (island >> one[i] & 1) != 0) {
                    on |= 1 << i;
                }
            }
            return on;
        }

        /** Whether no ring is among the chosen edges; trees tells then which points hang together. */
        private boolean isForest(int chosen) {
            for (int i = 0; i < MOST_POINTS; i++) {
                trees[i] = i;
            }
            for (int i = 0; i < edges; i++) {
                if ((chosen >> i & 1) != 0) {
                    int mine = trees[one[i]];
                    int its = trees[other[i]];
                    if (mine == its) {
                        return false;
                    }
                    hang(its, mine);
                }
            }
            return true;
        }

        private void hang(int from, int to) {
            for (int i = 0; i < MOST_POINTS; i++) {
                if (trees[i] == from) {
                    trees[i] = to;
                }
            }
        }

        private long ohmsOf(int chosen) {
            long product = 1;
            for (int i = 0; i < edges; i++) {
                if ((chosen >> i & 1) != 0) {
                    product *= ohms[i];
                }
            }
            return product;
        }

        int dearestEdge(int a, int b) {
            int dearest = 0;
            for (int i = 0; i < edges; i++) {
                measure(a, b, i);
                if (i == 0 || worth.against(best) > 0) {
                    dearest = i;
                    best.copy(worth);
                }
            }
            return dearest;
        }

        int bridgesOf(int a, int b) {
            int bridges = 0;
            for (int i = 0; i < edges; i++) {
                if (!isWay(a, b, i)) {
                    bridges |= 1 << i;
                }
            }
            return bridges;
        }

        void copy(Mesh from) {
            points = from.points;
            edges = from.edges;
            System.arraycopy(from.one, 0, one, 0, MOST_EDGES);
            System.arraycopy(from.other, 0, other, 0, MOST_EDGES);
            System.arraycopy(from.ohms, 0, ohms, 0, MOST_EDGES);
        }
    }

    /** A row of places for nets of one kind, or missing. */
    private static final class Tray {
        private static final int ANY = 0, PARTS = 1;

        int kind = NONE;
        int size;
        final int[] places = new int[MOST_PLACES];

        void become(int itsKind, int n) {
            kind = itsKind;
            size = n;
            Arrays.fill(places, NONE);
        }

        boolean isMissing() {
            return kind == NONE;
        }

        boolean hasPlace(int i) {
            return i >= 0 && i < size && i < MOST_PLACES;
        }

        boolean hasStretch(int i, int n) {
            return i >= 0 && n >= 0 && i <= size - n && size <= MOST_PLACES;
        }

        boolean fits(Nets nets, int id) {
            if (kind == ANY || !nets.has(id)) {
                return true;
            }
            return (kind == PARTS) == (nets.kind[id] == PART);
        }

        void copy(Tray other) {
            kind = other.kind;
            size = other.size;
            System.arraycopy(other.places, 0, places, 0, MOST_PLACES);
        }
    }

    /** Box, nets, mesh and trays as they once were. */
    private static final class Image {
        final Box box = new Box();
        final Nets nets = new Nets();
        final Mesh mesh = new Mesh();
        final Tray[] trays = new Tray[MOST_TRAYS];
        boolean isTaken;

        Image() {
            for (int i = 0; i < MOST_TRAYS; i++) {
                trays[i] = new Tray();
            }
        }

        void take(Box itsBox, Nets itsNets, Mesh itsMesh, Tray[] itsTrays) {
            box.copy(itsBox);
            nets.copy(itsNets);
            mesh.copy(itsMesh);
            for (int i = 0; i < MOST_TRAYS && i < itsTrays.length; i++) {
                trays[i].copy(itsTrays[i]);
            }
            isTaken = true;
        }

        void give(Box itsBox, Nets itsNets, Mesh itsMesh, Tray[] itsTrays) {
            itsBox.copy(box);
            itsNets.copy(nets);
            itsMesh.copy(mesh);
            for (int i = 0; i < MOST_TRAYS && i < itsTrays.length; i++) {
                itsTrays[i].copy(trays[i]);
            }
        }
    }
}
