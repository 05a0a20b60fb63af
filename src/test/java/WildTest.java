/** Each call with numbers all of which may be far off at once, on objects that hold little or much: none throws. */
public final class WildTest {
    private static final int LEAST = Integer.MIN_VALUE, MOST = Integer.MAX_VALUE;
    private static final int[] MANY = {LEAST, LEAST + 1, -100, -2, -1, 0, 1, 2, 3, 4, 12, 20, 39, 40, 99, 1 << 16, 1 << 30, MOST - 1, MOST};
    private static final int[] SOME = {LEAST, LEAST + 1, -1, 0, 1, 2, 3, 20, 1 << 30, MOST - 1, MOST};
    private static final int[] FEW = {LEAST, -1, 0, 1, 2, MOST};
    private static final int[] FEWEST = {LEAST, 0, 1, MOST};
    private static final Check CHECK = new Check("WildTest");

    interface Way {
        void lead(Pair p);
    }

    public static void main(String[] args) {
        Way[] ways = {p -> { }, WildTest::some, WildTest::full, WildTest::great};
        for (Way way : ways) {
            for (String name : Pair.names()) {
                all(way, name);
            }
        }
        CHECK.end();
    }

    private static int[] numbersFor(int many) {
        return many <= 2 ? MANY : many == 3 ? SOME : many <= 5 ? FEW : FEWEST;
    }

    /** Whatever the numbers, each beside each. */
    private static void all(Way way, String name) {
        int many = Pair.numbersOf(name);
        int[] numbers = numbersFor(many);
        int rows = 1;
        for (int i = 0; i < many; i++) {
            rows *= numbers.length;
        }
        Pair p = null;
        for (int row = 0; row < rows; row++) {
            if (p == null || p.isUsedUp()) {
                p = new Pair(CHECK);
                way.lead(p);
            }
            int[] chosen = new int[many];
            int rest = row;
            for (int i = 0; i < many; i++) {
                chosen[i] = numbers[rest % numbers.length];
                rest /= numbers.length;
            }
            p.call(name, chosen);
        }
    }

    private static void some(Pair p) {
        p.call("sort", 0, 10, 5);
        p.call("sort", 2, 15, 50);
        p.call("image");
        p.text("((a+c)|(a|a))");
        p.call("read");
        p.call("edge", 0, 1, 10);
        p.call("edge", 1, 2, 7);
        p.call("tray", 0, 0, 5);
        p.call("lay", 0, 1, 2);
        p.call("lay", 0, 2, 0);
        p.call("tray", 1, 1, 3);
        p.text("(a+");
    }

    /** Forty nets, eight edges, twenty places in each tray, sixty bytes. */
    private static void full(Pair p) {
        int[] ohms = {97, 89, 83, 79};
        for (int sort = 0; sort < 4; sort++) {
            p.call("sort", sort, ohms[sort], 10 * sort);
            p.call("part", sort);
        }
        for (int i = 0; i < 60 && p.call("count", 0) < 40; i++) {
            p.call("join", i % 2, i / 6 + 4 * (i % 3), i % 6);
        }
        CHECK.due("forty", p.call("count", 0), 40);
        p.call("points", 6);
        for (int i = 0; i < 8; i++) {
            p.call("edge", i % 6, (i + 1 + i / 6) % 6, 99 - i);
        }
        for (int tray = 0; tray < 3; tray++) {
            p.call("tray", tray, tray, 20);
            for (int i = 0; i < 20; i++) {
                p.call("lay", tray, i, tray == 1 ? i % 4 : 4 + i);
            }
        }
        p.call("image");
        for (int i = 0; i < 60; i++) {
            p.call("feed", i < 11 ? '(' : 'a');
        }
    }

    /** Nets of twelve parts, of which the last is LONG. */
    private static void great(Pair p) {
        int[] ohms = {97, 89, 83, 79};
        for (int sort = 0; sort < 4; sort++) {
            p.call("sort", sort, ohms[sort], 50);
        }
        p.text("(a|(b+(c|(d+(a|(b+(c|(d+(a|(b+(c|d)))))))))))");
        p.call("read");
        p.text("(((((((((((d|c)+b)|a)+d)|c)+b)|a)+d)|c)+b)|a)");
        p.call("read");
        p.call("points", 2);
        for (int i = 0; i < 8; i++) {
            p.call("edge", i % 2, 1 - i % 2, 99 - i);
        }
        p.call("image");
    }
}
