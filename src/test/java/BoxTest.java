/** Promises 1 to 3, and what count() tells of them (38). */
public final class BoxTest {
    private static final Check CHECK = new Check("BoxTest");

    public static void main(String[] args) {
        newObject();
        sort();
        ofSort();
        count();
        CHECK.end();
    }

    private static void newObject() {
        WishedResistor x = new WishedResistor();
        int[] counts = {0, 0, 4, 0, 0, 0};
        for (int what = 0; what < 6; what++) {
            CHECK.due("1 count " + what, x.count(what), counts[what]);
        }
        for (int sort = 0; sort < 4; sort++) {
            CHECK.due("1 ohms", x.ofSort(sort, 0), 0);
            CHECK.due("1 spread", x.ofSort(sort, 1), 0);
        }
        for (int tray = 0; tray < 3; tray++) {
            CHECK.due("1 tray", x.at(tray, 0), -11);
        }
        CHECK.due("1 image", x.back(), WishedResistor.STATE);
        CHECK.due("1 net", x.net(0, 0), WishedResistor.BAD);
        CHECK.due("1 edge", x.tell(0, 5), WishedResistor.BAD);
    }

    private static void sort() {
        WishedResistor x = new WishedResistor();
        CHECK.due("2 was", x.sort(3, 99, 50), 0);
        CHECK.due("2 was", x.sort(3, 1, 0), 99);
        CHECK.due("2 was", x.sort(3, 0, 7), 1);
        CHECK.due("2 spread of none", x.ofSort(3, 1), 7);
        CHECK.due("2 was", x.sort(3, 0, 8), 0);
        int[][] bad = {{-1, 5, 5}, {4, 5, 5}, {0, -1, 5}, {0, 100, 5}, {0, 5, -1}, {0, 5, 51},
            {Integer.MIN_VALUE, 5, 5}, {0, Integer.MAX_VALUE, 5}};
        for (int[] b : bad) {
            CHECK.due("2 bad", x.sort(b[0], b[1], b[2]), WishedResistor.BAD);
        }
        CHECK.due("2 nothing changed", x.ofSort(0, 0), 0);
        x.sort(1, 20, 3);
        int id = x.part(1);
        CHECK.due("2 state", x.sort(1, 0, 4), WishedResistor.STATE);
        CHECK.due("2 bad ahead of state", x.sort(1, 0, 51), WishedResistor.BAD);
        CHECK.due("2 stays", x.ofSort(1, 0), 20);
        CHECK.due("2 stays", x.ofSort(1, 1), 3);
        CHECK.due("2 other ohms", x.sort(1, 30, 3), 20);
        CHECK.due("2 net is worth the new ohms", x.value(id, 0), 30);
        CHECK.due("2 another sort may go", x.sort(3, 0, 0), 0);
    }

    private static void ofSort() {
        WishedResistor x = Check.box(10, 20);
        x.sort(0, 11, 12);
        CHECK.due("3 ohms", x.ofSort(0, 0), 11);
        CHECK.due("3 spread", x.ofSort(0, 1), 12);
        CHECK.due("3 no net", x.ofSort(0, 2), 0);
        x.part(0);
        x.part(0);
        x.join(0, 0, 0);
        CHECK.due("3 one net", x.ofSort(0, 2), 1);
        CHECK.due("3 not of this", x.ofSort(1, 2), 0);
        CHECK.due("3 bad", x.ofSort(-1, 0), WishedResistor.BAD);
        CHECK.due("3 bad", x.ofSort(4, 0), WishedResistor.BAD);
        CHECK.due("3 bad", x.ofSort(0, -1), WishedResistor.BAD);
        CHECK.due("3 bad", x.ofSort(0, 3), WishedResistor.BAD);
    }

    private static void count() {
        WishedResistor x = Check.box(10, 20, 0, 5);
        x.part(0);
        x.join(1, 0, 0);
        x.points(6);
        x.edge(0, 5, 7);
        x.edge(0, 5, 7);
        x.tell(0, 0);
        x.feed('a');
        x.feed('b');
        x.feed('c');
        int[] counts = {2, 3, 6, 2, 3};
        for (int what = 0; what < 5; what++) {
            CHECK.due("38 count " + what, x.count(what), counts[what]);
        }
        CHECK.due("38 reached", x.count(5), x.reached(1) + x.reached(2) + x.reached(3) + x.reached(4));
        CHECK.due("38 one sort", Check.box(12).count(5), 1 + 2 + 4 + 8);
        CHECK.due("38 bad", x.count(-1), WishedResistor.BAD);
        CHECK.due("38 bad", x.count(6), WishedResistor.BAD);
    }
}
