import java.util.ArrayList;
import java.util.List;

/** Two objects led alike, of which one does more calls: what tells them apart then. */
final class Twin {
    interface Way {
        void lead(WishedResistor x);
    }

    interface Call {
        long ask(WishedResistor x);
    }

    private Twin() {
    }

    /** The last call is refused as due; neither the object nor its image is another one by it. */
    static void refused(Check check, String name, Way way, Call call, long due) {
        same(check, name, way, x -> check.due(name, call.ask(x), due));
    }

    /** Calls that leave all as it is. */
    static void same(Check check, String name, Way way, Way more) {
        compare(check, name, way, more, x -> { });
        compare(check, name + ", the image", way, more, x -> x.back());
    }

    /** What one does by more stands just as after due, in the object and in its image. */
    static void alike(Check check, String name, Way way, Way more, Way due) {
        compare(check, name, x -> way.lead(x), more, due, x -> { });
        compare(check, name + ", the image", x -> way.lead(x), more, due, x -> x.back());
    }

    private static void compare(Check check, String name, Way way, Way more, Way end) {
        compare(check, name, way, more, x -> { }, end);
    }

    private static void compare(Check check, String name, Way way, Way more, Way due, Way end) {
        WishedResistor one = new WishedResistor();
        WishedResistor other = new WishedResistor();
        way.lead(one);
        way.lead(other);
        more.lead(one);
        due.lead(other);
        end.lead(one);
        end.lead(other);
        check.text(name + ": what can be seen then", seen(one), seen(other));
    }

    /** All that can be asked of an object, as a text; at most 290 calls, the last of them change it. */
    static String seen(WishedResistor x) {
        List<Long> row = new ArrayList<>();
        for (int what = 0; what < 6; what++) {
            row.add((long) x.count(what));
        }
        for (int sort = 0; sort < 4; sort++) {
            row.add((long) x.ofSort(sort, 0));
            row.add((long) x.ofSort(sort, 1));
        }
        seeNets(x, row);
        seeTrays(x, row);
        seeMesh(x, row);
        row.add((long) x.read());
        row.add((long) x.count(0));
        return row.toString();
    }

    private static void seeNets(WishedResistor x, List<Long> row) {
        int nets = x.count(0);
        for (int id = 0; id < nets; id++) {
            for (int what = 0; what < 3; what++) {
                row.add((long) x.net(id, what));
            }
        }
        row.add((long) x.net(nets, 0));
    }

    private static void seeTrays(WishedResistor x, List<Long> row) {
        int part = -1;
        int join = -1;
        for (int id = 0; id < x.count(0) && (part < 0 || join < 0); id++) {
            boolean isPart = x.net(id, 0) == 0;
            part = isPart ? id : part;
            join = isPart ? join : id;
        }
        for (int tray = 0; tray < 3; tray++) {
            int found = 0;
            for (int i = 0; i < 21 && found != -11 && found != -13; i++) {
                found = x.at(tray, i);
                row.add((long) found);
            }
            row.add((long) x.lay(tray, 0, part));
            row.add((long) x.lay(tray, 0, join));
        }
    }

    private static void seeMesh(WishedResistor x, List<Long> row) {
        int points = x.count(2);
        for (int a = 0; a < points; a++) {
            row.add((long) x.ways(a));
            for (int b = a + 1; b < points; b++) {
                row.add(x.between(a, b, 0));
                row.add(x.between(a, b, 1));
            }
        }
        int edges = x.count(3);
        for (int edge = 0; edge < edges; edge++) {
            row.add((long) x.tell(edge, 0));
        }
    }
}
