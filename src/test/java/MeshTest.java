/** Promises 24 to 31. */
public final class MeshTest {
    private static final Check CHECK = new Check("MeshTest");

    public static void main(String[] args) {
        points();
        edge();
        tell();
        between();
        bridge();
        greatNumbers();
        islands();
        without();
        dearest();
        bridges();
        ways();
        drawnMeshes();
        CHECK.end();
    }

    private static WishedResistor mesh(int points, int[]... edges) {
        WishedResistor x = new WishedResistor();
        x.points(points);
        for (int[] e : edges) {
            x.edge(e[0], e[1], e[2]);
        }
        return x;
    }

    private static void lies(String call, WishedResistor x, int a, int b, long above, long below) {
        CHECK.due(call + " above", x.between(a, b, 0), above);
        CHECK.due(call + " below", x.between(a, b, 1), below);
    }

    private static void points() {
        WishedResistor x = new WishedResistor();
        CHECK.due("24 was", x.points(2), 4);
        CHECK.due("24 was", x.points(6), 2);
        x.edge(4, 5, 1);
        CHECK.due("24 bad", x.points(1), WishedResistor.BAD);
        CHECK.due("24 bad", x.points(7), WishedResistor.BAD);
        CHECK.due("24 bad changes nothing", x.count(2) * 10 + x.count(3), 61);
        CHECK.due("24 the same many", x.points(6), 6);
        CHECK.due("24 no edges then", x.count(3), 0);
        CHECK.due("24 no way", x.ways(4), 16);
    }

    private static void edge() {
        WishedResistor x = new WishedResistor();
        int[][] bad = {{-1, 0, 1}, {4, 0, 1}, {0, -1, 1}, {0, 4, 1}, {2, 2, 1}, {0, 1, 0}, {0, 1, 100}, {0, 1, -1}};
        for (int[] b : bad) {
            CHECK.due("25 bad", x.edge(b[0], b[1], b[2]), WishedResistor.BAD);
        }
        for (int i = 0; i < 8; i++) {
            CHECK.due("25 number", x.edge(i % 2, 3 - i % 2, i == 0 ? 99 : 1), i);
        }
        CHECK.due("25 full", x.edge(0, 1, 5), WishedResistor.FULL);
        CHECK.due("25 bad ahead of full", x.edge(0, 0, 5), WishedResistor.BAD);
        CHECK.due("25 eight", x.count(3), 8);
    }

    private static void tell() {
        WishedResistor x = mesh(3, new int[][] {{0, 1, 5}, {1, 2, 6}});
        CHECK.due("26 was", x.tell(1, 9), 6);
        CHECK.due("26 was", x.tell(1, 0), 9);
        CHECK.due("26 was open", x.tell(1, 99), 0);
        lies("26 then", x, 0, 2, 104, 1);
        CHECK.due("26 bad", x.tell(2, 9), WishedResistor.BAD);
        CHECK.due("26 bad", x.tell(-1, 9), WishedResistor.BAD);
        CHECK.due("26 bad", x.tell(0, -1), WishedResistor.BAD);
        CHECK.due("26 bad", x.tell(0, 100), WishedResistor.BAD);
        CHECK.due("26 stays", x.tell(0, 5), 5);
    }

    private static void between() {
        WishedResistor x = mesh(4, new int[][] {{0, 1, 10}, {1, 2, 15}, {1, 0, 15}, {2, 3, 7}});
        lies("27 beside", x, 0, 1, 6, 1);
        lies("27 back", x, 1, 0, 6, 1);
        lies("27 series", x, 0, 3, 28, 1);
        lies("27 itself", x, 2, 2, 0, 1);
        x.tell(3, 0);
        lies("27 open", x, 0, 3, 1, 0);
        x.tell(1, 0);
        lies("27 no way", x, 0, 2, 1, 0);
        lies("27 itself off all", x, 3, 3, 0, 1);
        int[][] bad = {{-1, 0, 0}, {4, 0, 0}, {0, -1, 0}, {0, 4, 0}, {0, 1, -1}, {0, 1, 2}, {5, 5, 0}};
        for (int[] b : bad) {
            CHECK.due("27 bad", x.between(b[0], b[1], b[2]), WishedResistor.VOID);
        }
    }

    private static void bridge() {
        // Wheatstone's: balanced, nothing runs through the middle; unbalanced, it does.
        WishedResistor x = mesh(4, new int[][] {{0, 1, 1}, {1, 3, 2}, {0, 2, 2}, {2, 3, 4}, {1, 2, 50}});
        lies("27 balanced", x, 0, 3, 2, 1);
        WishedResistor y = mesh(4, new int[][] {{0, 1, 1}, {1, 3, 2}, {0, 2, 2}, {2, 3, 1}, {1, 2, 1}});
        lies("27 unbalanced", y, 0, 3, 7, 5);
        lies("27 over the bridge", y, 1, 2, 3, 5);
        // A cube's face has 4 of its own; a tetrahedron of like edges lies at half an edge.
        WishedResistor z = mesh(4, new int[][] {{0, 1, 8}, {0, 2, 8}, {0, 3, 8}, {1, 2, 8}, {1, 3, 8}, {2, 3, 8}});
        lies("27 tetrahedron", z, 1, 3, 4, 1);
        // A ring of six.
        WishedResistor r = mesh(6, new int[][] {{0, 1, 1}, {1, 2, 1}, {2, 3, 1}, {3, 4, 1}, {4, 5, 1}, {5, 0, 1}});
        lies("27 ring", r, 0, 3, 3, 2);
        lies("27 ring", r, 0, 2, 4, 3);
    }

    private static void greatNumbers() {
        WishedResistor x = mesh(2, new int[][] {{0, 1, 99}, {0, 1, 98}, {0, 1, 97}, {1, 0, 95}, {0, 1, 89}, {0, 1, 83}, {0, 1, 79}, {0, 1, 73}});
        long product = 99L * 98 * 97 * 95 * 89 * 83 * 79 * 73;
        long below = product / 99 + product / 98 + product / 97 + product / 95 + product / 89 + product / 83 + product / 79 + product / 73;
        lies("27 eight beside", x, 0, 1, product, below);
        CHECK.due("29 of great numbers: the least ohms", x.dearest(0, 1), 7);
        x.tell(7, 79);
        CHECK.due("29 of like ones the first", x.dearest(1, 0), 6);
        x.tell(0, 72);
        CHECK.due("29 the least ohms", x.dearest(1, 0), 0);
    }

    private static void islands() {
        WishedResistor x = mesh(6, new int[][] {{0, 1, 4}, {2, 3, 5}, {3, 4, 5}, {2, 4, 5}});
        lies("27 off what plays no part", x, 0, 1, 4, 1);
        lies("27 a ring off", x, 2, 3, 10, 3);
        lies("27 no way over", x, 1, 2, 1, 0);
        lies("27 none at all", x, 5, 0, 1, 0);
        x.edge(4, 5, 9);
        lies("27 what hangs there plays no part", x, 2, 3, 10, 3);
        lies("27 nor does the ring", x, 4, 5, 9, 1);
    }

    private static void without() {
        WishedResistor x = mesh(4, new int[][] {{0, 1, 10}, {0, 1, 15}, {1, 2, 5}, {1, 2, 3}});
        long[][] due = {{15 * 8 + 15, 8}, {10 * 8 + 15, 8}, {9, 1}, {11, 1}};
        for (int edge = 0; edge < 4; edge++) {
            CHECK.due("28 above", x.without(edge, 0, 2, 0), due[edge][0]);
            CHECK.due("28 below", x.without(edge, 0, 2, 1), due[edge][1]);
        }
        lies("28 nothing changes", x, 0, 1, 6, 1);
        x.tell(0, 0);
        CHECK.due("28 open already", x.without(0, 0, 1, 0), 15);
        CHECK.due("28 no way left", x.without(1, 0, 1, 0), 1);
        CHECK.due("28 no way left", x.without(1, 0, 1, 1), 0);
        CHECK.due("28 itself", x.without(1, 0, 0, 0) * 10 + x.without(1, 0, 0, 1), 1);
        int[][] bad = {{-1, 0, 1, 0}, {4, 0, 1, 0}, {0, -1, 1, 0}, {0, 4, 1, 0}, {0, 0, -1, 0}, {0, 0, 4, 0}, {0, 0, 1, 2}, {0, 0, 1, -1}};
        for (int[] b : bad) {
            CHECK.due("28 bad", x.without(b[0], b[1], b[2], b[3]), WishedResistor.VOID);
        }
    }

    private static void dearest() {
        WishedResistor x = new WishedResistor();
        CHECK.due("29 none", x.dearest(0, 1), WishedResistor.NOT);
        CHECK.due("29 none of itself", x.dearest(0, 0), WishedResistor.NOT);
        CHECK.due("29 bad ahead of none", x.dearest(0, 4), WishedResistor.BAD);
        CHECK.due("29 bad", x.dearest(-1, 0), WishedResistor.BAD);
        x.edge(0, 1, 10);
        x.edge(0, 1, 5);
        x.edge(1, 2, 7);
        CHECK.due("29 the lesser ohms", x.dearest(0, 1), 1);
        CHECK.due("29 1 by 0 is greatest", x.dearest(0, 2), 2);
        CHECK.due("29 itself", x.dearest(2, 2), 0);
        CHECK.due("29 no way at all: the first", x.dearest(0, 3), 0);
        x.tell(0, 0);
        CHECK.due("29 1 by 0, the first", x.dearest(0, 2), 1);
        x.tell(1, 0);
        CHECK.due("29 one that is open already counts", x.dearest(0, 1), 0);
        WishedResistor y = mesh(4, new int[][] {{2, 3, 1}, {0, 1, 6}, {0, 1, 6}});
        CHECK.due("29 of like ones the first", y.dearest(0, 1), 1);
    }

    private static void bridges() {
        WishedResistor x = mesh(5, new int[][] {{0, 1, 1}, {1, 2, 2}, {1, 2, 2}, {2, 3, 9}});
        CHECK.due("30 both", x.bridges(0, 3), 9);
        CHECK.due("30 one", x.bridges(0, 2), 1);
        CHECK.due("30 none", x.bridges(2, 1), 0);
        CHECK.due("30 itself", x.bridges(4, 4), 0);
        CHECK.due("30 no way", x.bridges(0, 4), WishedResistor.STATE);
        x.tell(2, 0);
        CHECK.due("30 an open one is none", x.bridges(0, 3), 1 + 2 + 8);
        x.tell(1, 0);
        CHECK.due("30 no way", x.bridges(0, 3), WishedResistor.STATE);
        CHECK.due("30 bad", x.bridges(-1, 0), WishedResistor.BAD);
        CHECK.due("30 bad", x.bridges(0, 5), WishedResistor.BAD);
    }

    private static void ways() {
        WishedResistor x = mesh(6, new int[][] {{5, 4, 1}, {4, 3, 2}, {3, 2, 2}, {2, 1, 9}});
        for (int a = 1; a < 6; a++) {
            CHECK.due("31 a chain", x.ways(a), 62);
        }
        CHECK.due("31 itself", x.ways(0), 1);
        x.tell(1, 0);
        CHECK.due("31 open", x.ways(5), 48);
        CHECK.due("31 open", x.ways(1), 14);
        CHECK.due("31 bad", x.ways(-1), WishedResistor.BAD);
        CHECK.due("31 bad", x.ways(6), WishedResistor.BAD);
        x.points(2);
        CHECK.due("31 bad of fewer points", x.ways(2), WishedResistor.BAD);
    }

    /** Full meshes, each asked of the model, which solves them by Gauss. */
    private static void drawnMeshes() {
        int seed = 1;
        for (int run = 0; run < 150; run++) {
            WishedResistor x = new WishedResistor();
            Model m = new Model();
            int points = 2 + run % 5;
            x.points(points);
            m.points(points);
            for (int i = 0; i < 10; i++) {
                seed = seed * 1103515245 + 12345;
                int a = (seed >>> 16) % points;
                int b = (seed >>> 20) % points;
                int ohms = 1 + (seed >>> 8) % 99;
                CHECK.due("25 drawn", x.edge(a, b, ohms), m.edge(a, b, ohms));
            }
            for (int a = 0; a < points; a++) {
                for (int b = 0; b < points; b++) {
                    CHECK.due("27 drawn", x.between(a, b, 0), m.between(a, b, 0));
                    CHECK.due("27 drawn", x.between(a, b, 1), m.between(a, b, 1));
                    CHECK.due("29 drawn", x.dearest(a, b), m.dearest(a, b));
                    CHECK.due("30 drawn", x.bridges(a, b), m.bridges(a, b));
                    CHECK.due("28 drawn", x.without(b, a, 1, 0), m.without(b, a, 1, 0));
                }
                CHECK.due("31 drawn", x.ways(a), m.ways(a));
            }
        }
    }
}
