/** Promises 36 and 37. */
public final class ImageTest {
    private static final Check CHECK = new Check("ImageTest");

    public static void main(String[] args) {
        WishedResistor x = Check.box(10, 20);
        CHECK.due("37 none", x.back(), WishedResistor.STATE);
        x.sort(1, 20, 9);
        int series = Check.read(x, "(a+b)");
        x.points(3);
        x.edge(0, 1, 5);
        x.edge(1, 2, 6);
        x.tray(0, 1, 2);
        x.lay(0, 1, 0);
        x.feed('(');
        CHECK.due("36 nets", x.image(), 3);
        changeAll(x);
        CHECK.due("37 nets", x.back(), 3);
        asItWas(x, series);
        CHECK.due("37 the tape stays", x.count(4), 2);
        changeAll(x);
        CHECK.due("37 again", x.back(), 3);
        asItWas(x, series);
        x.join(1, 0, 0);
        CHECK.due("36 anew", x.image(), 4);
        x.join(1, 0, 1);
        CHECK.due("37 the newer one", x.back(), 4);
        CHECK.due("37 the next ID", x.join(0, 1, 1), 4);
        CHECK.due("37 another new one", x.part(0), 0);
        emptyImage();
        CHECK.end();
    }

    private static void changeAll(WishedResistor x) {
        x.sort(0, 77, 7);
        x.sort(2, 5, 5);
        x.part(2);
        x.join(1, 0, 2);
        x.tell(0, 99);
        x.points(5);
        x.edge(3, 4, 7);
        x.tray(0, 2, 9);
        x.tray(1, 0, 3);
        x.lay(1, 0, 4);
        x.feed('a');
    }

    private static void asItWas(WishedResistor x, int series) {
        int[] counts = {3, 2, 3, 2};
        for (int what = 0; what < 4; what++) {
            CHECK.due("37 count " + what, x.count(what), counts[what]);
        }
        CHECK.due("37 ohms", x.ofSort(0, 0) * 100 + x.ofSort(0, 1), 1000);
        CHECK.due("37 spread", x.ofSort(1, 1), 9);
        CHECK.due("37 not there", x.ofSort(2, 0) * 100 + x.ofSort(2, 1), 0);
        CHECK.due("37 no part", x.ofSort(2, 2), 0);
        CHECK.due("37 value", x.value(series, 0), 30);
        CHECK.due("37 users", x.net(0, 4), 1);
        CHECK.due("37 what is gone", x.net(3, 0), WishedResistor.BAD);
        CHECK.due("37 mesh", x.between(0, 2, 0), 11);
        CHECK.due("37 tray", x.at(0, 1), 0);
        CHECK.due("37 tray", x.at(0, 0), WishedResistor.NOT);
        CHECK.due("37 tray", x.at(0, 2), -13);
        CHECK.due("37 tray's kind", x.lay(0, 0, series), -12);
        CHECK.due("37 missing", x.at(1, 0), -11);
        CHECK.due("37 reached", x.reach(2, 3, 0), 40);
    }

    private static void emptyImage() {
        WishedResistor x = new WishedResistor();
        CHECK.due("36 empty", x.image(), 0);
        x.sort(0, 5, 5);
        x.part(0);
        CHECK.due("37 empty", x.back(), 0);
        CHECK.due("37 empty box", x.count(1) + x.count(5), 0);
        CHECK.due("37 sort may go again", x.sort(0, 0, 0), 0);
        CHECK.due("37 not there", x.part(0), WishedResistor.STATE);
    }
}
