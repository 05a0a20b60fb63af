/** Promises 19 to 23. */
public final class ReachedTest {
    private static final Check CHECK = new Check("ReachedTest");

    public static void main(String[] args) {
        empty();
        byOneSort();
        byTwoSorts();
        likeSorts();
        fewest();
        nearest();
        ties();
        make();
        makeFull();
        otherBox();
        CHECK.end();
    }

    private static void empty() {
        WishedResistor x = new WishedResistor();
        for (int n = 1; n <= 4; n++) {
            CHECK.due("19 empty", x.reached(n), 0);
            CHECK.due("20 empty", x.reach(n, 0, 0), -2);
            CHECK.due("22 empty", x.nearest(1, 1, n, 2), -2);
        }
        CHECK.due("21 empty", x.fewest(1, 1), WishedResistor.NOT);
        CHECK.due("23 empty", x.make(1, 1), WishedResistor.NOT);
        CHECK.due("19 bad", x.reached(0), WishedResistor.BAD);
        CHECK.due("19 bad", x.reached(5), WishedResistor.BAD);
        CHECK.due("20 bad", x.reach(0, 0, 0), WishedResistor.VOID);
        CHECK.due("20 bad", x.reach(5, 0, 0), WishedResistor.VOID);
        CHECK.due("20 bad", x.reach(1, -1, 0), WishedResistor.VOID);
        CHECK.due("20 bad", x.reach(1, 0, -1), WishedResistor.VOID);
        CHECK.due("20 bad", x.reach(1, 0, 3), WishedResistor.VOID);
    }

    private static void rows(WishedResistor x, int n, int[][] due) {
        CHECK.due("19 by " + n, x.reached(n), due.length);
        for (int k = 0; k < due.length; k++) {
            for (int what = 0; what < 3; what++) {
                CHECK.due("20 by " + n + " the " + k + " " + what, x.reach(n, k, what), due[k][what]);
            }
        }
        for (int what = 0; what < 3; what++) {
            CHECK.due("20 no more", x.reach(n, due.length, what), -2);
            CHECK.due("20 far", x.reach(n, Integer.MAX_VALUE, what), -2);
        }
    }

    /** By four they come as 12 with 36, 8, 18 and 4, series first; pairs of those by two bring nothing new. */
    private static void byOneSort() {
        WishedResistor x = Check.box(0, 0, 12);
        rows(x, 4, new int[][] {{3, 1, 7}, {24, 5, 3}, {36, 5, 5}, {9, 1, 1}, {16, 1, 6}, {20, 1, 2}, {30, 1, 4}, {48, 1, 0}});
        rows(x, 1, new int[][] {{12, 1, 0}});
        rows(x, 2, new int[][] {{6, 1, 1}, {24, 1, 0}});
        rows(x, 3, new int[][] {{4, 1, 3}, {8, 1, 1}, {18, 1, 2}, {36, 1, 0}});
        CHECK.due("38 in all", x.count(5), 15);
    }

    private static void byTwoSorts() {
        WishedResistor x = Check.box(3, 6);
        rows(x, 1, new int[][] {{3, 1, 0}, {6, 1, 1}});
        // 3+3 is 6, which is reached by one; 6|6 is 3; so they come as 3|3, 3+6, 3|6, 6+6.
        rows(x, 2, new int[][] {{3, 2, 0}, {2, 1, 2}, {9, 1, 1}, {12, 1, 3}});
        // 3 with 3/2, 9, 2, 12, then 6 with each, series first.
        rows(x, 3, new int[][] {{1, 1, 1}, {6, 5, 4}, {9, 4, 2}, {12, 5, 6}, {18, 5, 8}, {4, 1, 11},
            {9, 2, 0}, {5, 1, 3}, {15, 2, 7}, {8, 1, 9}, {15, 1, 5}, {18, 1, 10}});
    }

    private static void likeSorts() {
        WishedResistor x = Check.box(7, 5, 7, 5);
        rows(x, 1, new int[][] {{5, 1, 1}, {7, 1, 0}});
        CHECK.text("23 of the first of them", Check.printed(x, x.make(12, 1)), "(a+b)");
        CHECK.text("23 of the first of them", Check.printed(x, x.make(5, 1)), "b");
    }

    private static void fewest() {
        WishedResistor x = Check.box(12);
        int[][] due = {{12, 1, 1}, {6, 1, 2}, {24, 1, 2}, {18, 1, 3}, {8, 1, 3}, {9, 1, 4}, {24, 5, 4}, {36, 5, 4}, {7, 1, -2}, {60, 1, -2},
            {24, 2, 1}, {999, 999, -2}, {120, 25, 4}, {12, 12, -2}};
        for (int[] d : due) {
            CHECK.due("21 " + d[0] + " by " + d[1], x.fewest(d[0], d[1]), d[2]);
        }
        int[][] bad = {{0, 1}, {1, 0}, {1000, 1}, {1, 1000}, {-5, 1}, {1, Integer.MIN_VALUE}};
        for (int[] b : bad) {
            CHECK.due("21 bad", x.fewest(b[0], b[1]), WishedResistor.BAD);
            CHECK.due("22 bad", x.nearest(b[0], b[1], 1, 0), WishedResistor.VOID);
            CHECK.due("23 bad", x.make(b[0], b[1]), WishedResistor.BAD);
        }
        CHECK.due("21 greatest wish", Check.box(99).fewest(999, 999), WishedResistor.NOT);
        CHECK.due("21 one", Check.box(1).fewest(999, 999), 1);
    }

    private static void near(WishedResistor x, int p, int q, int n, long above, long below, long parts) {
        CHECK.due("22 above", x.nearest(p, q, n, 0), above);
        CHECK.due("22 below", x.nearest(p, q, n, 1), below);
        CHECK.due("22 parts", x.nearest(p, q, n, 2), parts);
    }

    private static void nearest() {
        WishedResistor x = Check.box(12);
        near(x, 999, 1, 1, 12, 1, 1);
        near(x, 999, 1, 2, 24, 1, 2);
        near(x, 999, 1, 4, 48, 1, 4);
        near(x, 1, 999, 4, 3, 1, 4);
        near(x, 1, 999, 3, 4, 1, 3);
        near(x, 14, 2, 4, 36, 5, 4);
        near(x, 7, 1, 3, 6, 1, 2);
        near(x, 36, 5, 4, 36, 5, 4);
        near(x, 24, 2, 4, 12, 1, 1);
        CHECK.due("22 bad", x.nearest(1, 1, 0, 0), WishedResistor.VOID);
        CHECK.due("22 bad", x.nearest(1, 1, 5, 0), WishedResistor.VOID);
        CHECK.due("22 bad", x.nearest(1, 1, 1, -1), WishedResistor.VOID);
        CHECK.due("22 bad", x.nearest(1, 1, 1, 3), WishedResistor.VOID);
    }

    private static void ties() {
        WishedResistor x = Check.box(12);
        // 7 lies between 6 (two parts) and 8 (three); 5 between 4 (three) and 6 (two).
        near(x, 7, 1, 3, 6, 1, 2);
        near(x, 5, 1, 3, 6, 1, 2);
        // 18 (three) and 20 (four) lie as far from 19.
        near(x, 19, 1, 4, 18, 1, 3);
        near(x, 13, 1, 3, 12, 1, 1);
        // 10 lies between 8 (three) and 12 (one).
        near(x, 10, 1, 3, 12, 1, 1);
        WishedResistor y = Check.box(20, 10);
        near(y, 15, 1, 1, 10, 1, 1);
        WishedResistor z = Check.box(10, 20);
        near(z, 15, 1, 1, 10, 1, 1);
        near(Check.box(10, 13, 17, 20), 15, 1, 1, 13, 1, 1);
        near(Check.box(20, 17, 13, 10), 15, 1, 1, 13, 1, 1);
        near(Check.box(17, 0, 13), 15, 1, 1, 13, 1, 1);
    }

    private static void make() {
        WishedResistor x = Check.box(3, 6);
        CHECK.due("23 by one", x.make(3, 1), 0);
        int id = x.make(2, 1);
        CHECK.text("23 by two", Check.printed(x, id), "(a|b)");
        CHECK.due("23 first, second, itself", id, 2);
        CHECK.due("23 again", x.make(4, 2), 2);
        // 1 by 1 by three parts comes first of 3 with 3/2: FIRST is the single one.
        CHECK.text("23 by three", Check.printed(x, x.make(1, 1)), "(a|(a|a))");
        CHECK.text("23 series ahead of beside", Check.printed(x, x.make(9, 2)), "(a+(a|a))");
        CHECK.text("23 6 is one part, so 24 is 6 and 18", Check.printed(x, x.make(24, 1)), "(b+(b+(b+b)))");
        CHECK.due("23 not", x.make(997, 1), WishedResistor.NOT);
        WishedResistor y = Check.box(12);
        CHECK.text("23 the first way", Check.printed(y, y.make(30, 1)), "(a+(a+(a|a)))");
        CHECK.due("23 kept in order", y.count(0), 4);
        String[] order = {"a", "(a|a)", "(a+(a|a))", "(a+(a+(a|a)))"};
        for (int i = 0; i < 4; i++) {
            CHECK.text("23 kept", Check.printed(y, i), order[i]);
        }
        // Every value is worth what it is made of, by as many parts as are told.
        WishedResistor z = Check.box(5, 8, 9);
        z.image();
        for (int k = 0; k < z.reached(4) && k < 60; k++) {
            long above = z.reach(4, k * 5, 0);
            long below = z.reach(4, k * 5, 1);
            if (above > 0 && above < 1000 && below < 1000) {
                int net = z.make((int) above, (int) below);
                CHECK.due("23 above", z.value(net, 0), above);
                CHECK.due("23 below", z.value(net, 1), below);
                CHECK.due("23 parts", z.net(net, 3), 4);
                z.back();
            }
        }
    }

    private static void makeFull() {
        WishedResistor x = Check.box(12, 5);
        x.part(1);
        for (int i = 0; x.count(0) < 38; i++) {
            x.join(i % 2, i / 2 % 5, i / 10 % 6);
        }
        CHECK.due("23 not, though there is no room", x.make(999, 1), WishedResistor.NOT);
        CHECK.due("23 full", x.make(30, 1), WishedResistor.FULL);
        CHECK.due("23 what was kept ahead stays", x.count(0), 40);
        CHECK.text("23 kept", Check.printed(x, 38) + Check.printed(x, 39), "a(a|a)");
        CHECK.due("23 there though 40 are", x.make(6, 1), 39);
        CHECK.due("23 full again", x.make(18, 1), WishedResistor.FULL);
    }

    private static void otherBox() {
        WishedResistor x = Check.box(12);
        x.reached(4);
        x.reach(3, 0, 0);
        x.image();
        x.sort(0, 24, 0);
        CHECK.due("20 the box as it is", x.reach(3, 0, 0), 8);
        CHECK.due("21 the box as it is", x.fewest(4, 1), WishedResistor.NOT);
        x.sort(0, 24, 50);
        CHECK.due("20 spread doesn't matter", x.reach(3, 0, 0), 8);
        x.back();
        CHECK.due("20 the box as it was", x.reach(3, 0, 0), 4);
        CHECK.due("22 the box as it was", x.nearest(100, 1, 4, 0), 48);
        x.sort(0, 0, 0);
        CHECK.due("19 an empty box", x.reached(1), 0);
        CHECK.due("38 an empty box", x.count(5), 0);
    }
}
