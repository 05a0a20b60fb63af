/** Promises 32 to 35. */
public final class TraysTest {
    private static final int MISSING = -11, KIND = -12, OUTSIDE = -13, SIZE = -14;
    private static final Check CHECK = new Check("TraysTest");

    public static void main(String[] args) {
        tray();
        lay();
        at();
        shift();
        shiftRefused();
        CHECK.end();
    }

    /** Nets 0, 1 parts, 2 a series, 3 a beside. */
    private static WishedResistor nets() {
        WishedResistor x = Check.box(10, 20);
        x.part(0);
        x.part(1);
        x.join(0, 0, 1);
        x.join(1, 0, 1);
        return x;
    }

    private static void row(String call, WishedResistor x, int tray, int... due) {
        for (int i = 0; i < due.length; i++) {
            CHECK.due(call + " place " + i, x.at(tray, i), due[i] == -1 ? WishedResistor.NOT : due[i]);
        }
        CHECK.due(call + " end", x.at(tray, due.length), OUTSIDE);
    }

    private static void tray() {
        WishedResistor x = nets();
        CHECK.due("32 made", x.tray(0, 0, 20), 1);
        CHECK.due("32 last place", x.at(0, 19), WishedResistor.NOT);
        CHECK.due("32 behind", x.at(0, 20), OUTSIDE);
        CHECK.due("32 no places", x.tray(1, 2, 0), 1);
        CHECK.due("32 no places", x.at(1, 0), OUTSIDE);
        x.tray(2, 1, 2);
        x.lay(2, 1, 0);
        CHECK.due("32 anew", x.tray(2, 1, 2), 1);
        row("32 all none", x, 2, -1, -1);
        CHECK.due("32 missing, n doesn't matter", x.tray(2, -1, 21), 1);
        CHECK.due("32 missing", x.at(2, 0), MISSING);
        CHECK.due("32 missing again", x.tray(2, -1, -5), 1);
        int[][] bad = {{-1, 0, 1}, {3, 0, 1}, {0, -2, 1}, {0, 3, 1}, {0, 0, 21}, {0, 3, -1}, {3, 0, -1}, {0, 0, Integer.MAX_VALUE}};
        for (int[] b : bad) {
            CHECK.due("32 bad", x.tray(b[0], b[1], b[2]), WishedResistor.BAD);
        }
        CHECK.due("32 below 0", x.tray(0, 0, -1), SIZE);
        CHECK.due("32 below 0", x.tray(2, 2, Integer.MIN_VALUE), SIZE);
        CHECK.due("32 nothing changed", x.at(0, 19), WishedResistor.NOT);
        CHECK.due("32 nothing changed", x.at(2, 0), MISSING);
    }

    private static void lay() {
        WishedResistor x = nets();
        for (int kind = 0; kind < 3; kind++) {
            x.tray(kind, kind, 3);
            for (int id = -1; id < 4; id++) {
                boolean fits = id == -1 || kind == 0 || (kind == 1) == (id < 2);
                CHECK.due("33 " + id + " on kind " + kind, x.lay(kind, 1, id), fits ? 1 : KIND);
            }
        }
        row("33 any", x, 0, -1, 3, -1);
        row("33 parts", x, 1, -1, 1, -1);
        row("33 joins", x, 2, -1, 3, -1);
        x.lay(0, 1, -1);
        row("33 none", x, 0, -1, -1, -1);
        CHECK.due("33 bad tray", x.lay(-1, 0, 0), WishedResistor.BAD);
        CHECK.due("33 bad tray", x.lay(3, 0, 0), WishedResistor.BAD);
        CHECK.due("33 bad id", x.lay(0, 0, -2), WishedResistor.BAD);
        CHECK.due("33 bad id", x.lay(0, 0, 4), WishedResistor.BAD);
        CHECK.due("33 outside", x.lay(0, -1, 0), OUTSIDE);
        CHECK.due("33 outside", x.lay(0, 3, 0), OUTSIDE);
        CHECK.due("33 outside ahead of kind", x.lay(1, 3, 2), OUTSIDE);
        x.tray(0, -1, 0);
        CHECK.due("33 missing ahead of outside", x.lay(0, -1, 0), MISSING);
        CHECK.due("33 bad ahead of missing", x.lay(0, 0, 4), WishedResistor.BAD);
        row("33 nothing changed", x, 1, -1, 1, -1);
    }

    private static void at() {
        WishedResistor x = nets();
        x.tray(1, 0, 2);
        x.lay(1, 0, 0);
        x.lay(1, 1, 3);
        CHECK.due("34 first", x.at(1, 0), 0);
        CHECK.due("34 last", x.at(1, 1), 3);
        CHECK.due("34 outside", x.at(1, 2), OUTSIDE);
        CHECK.due("34 outside", x.at(1, -1), OUTSIDE);
        CHECK.due("34 missing", x.at(0, -1), MISSING);
        CHECK.due("34 bad", x.at(-1, 0), WishedResistor.BAD);
        CHECK.due("34 bad", x.at(3, 0), WishedResistor.BAD);
    }

    private static WishedResistor filled() {
        WishedResistor x = nets();
        x.tray(0, 0, 5);
        for (int i = 0; i < 4; i++) {
            x.lay(0, i, i);
        }
        x.tray(1, 1, 4);
        x.tray(2, 2, 4);
        return x;
    }

    private static void shift() {
        WishedResistor x = filled();
        CHECK.due("35 up in itself", x.shift(0, 0, 0, 1, 4), 4);
        row("35 as they were ahead of it", x, 0, 0, 0, 1, 2, 3);
        CHECK.due("35 down in itself", x.shift(0, 2, 0, 0, 3), 3);
        row("35 as they were ahead of it", x, 0, 1, 2, 3, 2, 3);
        x = filled();
        CHECK.due("35 parts", x.shift(0, 0, 1, 2, 2), 2);
        row("35 parts", x, 1, -1, -1, 0, 1);
        CHECK.due("35 joins and none", x.shift(0, 2, 2, 0, 3), 3);
        row("35 joins and none", x, 2, 2, 3, -1, -1);
        CHECK.due("35 none takes its place", x.shift(1, 0, 0, 1, 2), 2);
        row("35 none takes its place", x, 0, 0, -1, -1, 3, -1);
        CHECK.due("35 nothing", x.shift(0, 0, 1, 0, 0), 0);
        CHECK.due("35 nothing at the end", x.shift(0, 5, 1, 4, 0), 0);
    }

    private static void shiftRefused() {
        WishedResistor x = filled();
        CHECK.due("35 another kind", x.shift(0, 0, 1, 0, 4), KIND);
        row("35 those ahead of it came", x, 1, 0, 1, -1, -1);
        CHECK.due("35 another kind", x.shift(0, 1, 2, 0, 2), KIND);
        row("35 none came", x, 2, -1, -1, -1, -1);
        int[][] outside = {{-1, 0, 1}, {0, -1, 1}, {0, 0, -1}, {0, 0, 5}, {2, 0, 4}, {0, 1, 4}, {6, 0, 0}, {0, 5, 0}, {4, 3, 2},
            {Integer.MAX_VALUE, 0, 1}, {0, Integer.MAX_VALUE, 1}, {1, 1, Integer.MAX_VALUE}, {0, 0, Integer.MIN_VALUE}};
        for (int[] o : outside) {
            CHECK.due("35 outside", x.shift(0, o[0], 1, o[1], o[2]), OUTSIDE);
        }
        row("35 outside ahead of another kind", x, 1, 0, 1, -1, -1);
        CHECK.due("35 bad", x.shift(-1, 0, 0, 0, 1), WishedResistor.BAD);
        CHECK.due("35 bad", x.shift(3, 0, 0, 0, 1), WishedResistor.BAD);
        CHECK.due("35 bad", x.shift(0, 0, -1, 0, 1), WishedResistor.BAD);
        CHECK.due("35 bad", x.shift(0, 0, 3, 0, 1), WishedResistor.BAD);
        x.tray(2, -1, 0);
        CHECK.due("35 missing", x.shift(2, 0, 0, 0, 1), MISSING);
        CHECK.due("35 missing", x.shift(0, 0, 2, 0, 1), MISSING);
        CHECK.due("35 missing ahead of outside", x.shift(0, -1, 2, 0, -1), MISSING);
        CHECK.due("35 bad ahead of missing", x.shift(2, -1, 3, 0, -1), WishedResistor.BAD);
    }
}
