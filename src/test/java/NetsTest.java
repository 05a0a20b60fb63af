/** Promises 4 to 6, 12, 13 and 18. */
public final class NetsTest {
    private static final Check CHECK = new Check("NetsTest");

    public static void main(String[] args) {
        part();
        join();
        limits();
        net();
        alike();
        turned();
        print();
        CHECK.end();
    }

    private static void part() {
        WishedResistor x = Check.box(10, 20, 20);
        CHECK.due("4 first", x.part(1), 0);
        CHECK.due("4 second", x.part(2), 1);
        CHECK.due("4 again", x.part(1), 0);
        CHECK.due("4 not there", x.part(3), WishedResistor.STATE);
        CHECK.due("4 bad", x.part(4), WishedResistor.BAD);
        CHECK.due("4 bad", x.part(-1), WishedResistor.BAD);
        CHECK.due("4 nets", x.count(0), 2);
    }

    private static void join() {
        WishedResistor x = Check.box(10, 20);
        int a = x.part(0);
        int b = x.part(1);
        int ab = x.join(0, a, b);
        CHECK.due("5 series", ab, 2);
        CHECK.due("5 other way about", x.join(0, b, a), 3);
        CHECK.due("5 other kind", x.join(1, a, b), 4);
        CHECK.due("5 again", x.join(0, a, b), 2);
        CHECK.due("5 with itself", x.join(1, a, a), 5);
        int[][] bad = {{-1, 0, 0}, {2, 0, 0}, {0, -1, 0}, {0, 6, 0}, {0, 0, -1}, {0, 0, 6}};
        for (int[] b3 : bad) {
            CHECK.due("5 bad", x.join(b3[0], b3[1], b3[2]), WishedResistor.BAD);
        }
        CHECK.due("5 nets", x.count(0), 6);
    }

    private static void limits() {
        WishedResistor x = Check.box(1, 2);
        x.part(0);
        int id = 0;
        for (int parts = 2; parts <= 12; parts++) {
            id = x.join(0, id, 0);
            CHECK.due("5 up to 12 parts", x.net(id, 3), parts);
        }
        CHECK.due("5 a 13th", x.join(0, id, 0), WishedResistor.LONG);
        CHECK.due("5 a 24th", x.join(1, id, id), WishedResistor.LONG);
        CHECK.due("5 12 in all", x.join(1, 5, 5), 12);
        for (int id2 = 13; id2 < 40; id2++) {
            // Of net k and net 0 there is none beside one another yet, nor any with k and 1.
            int k = id2 - 13;
            CHECK.due("5 up to 40", x.join(1, k % 10, k < 10 ? 0 : k < 20 ? 1 : 2), id2);
        }
        CHECK.due("5 nets", x.count(0), 40);
        CHECK.due("4 full", x.part(1), WishedResistor.FULL);
        CHECK.due("4 state ahead of full", x.part(2), WishedResistor.STATE);
        CHECK.due("4 there though 40 are", x.part(0), 0);
        CHECK.due("5 full", x.join(1, 0, 5), WishedResistor.FULL);
        CHECK.due("5 long ahead of full", x.join(1, id, 6), WishedResistor.LONG);
        CHECK.due("5 there though 40 are", x.join(0, 0, 0), 1);
        CHECK.due("5 nets", x.count(0), 40);
    }

    private static void net() {
        WishedResistor x = Check.box(10, 0, 20);
        int a = x.part(0);
        int c = x.part(2);
        int s = x.join(0, c, a);
        int p = x.join(1, s, s);
        int[][] due = {{0, 0, -2, 1, 1}, {0, 2, -2, 1, 1}, {1, c, a, 2, 1}, {2, s, s, 4, 0}};
        for (int id = 0; id < 4; id++) {
            for (int what = 0; what < 5; what++) {
                CHECK.due("6 net " + id + " " + what, x.net(id, what), due[id][what]);
            }
        }
        x.join(1, p, a);
        x.join(0, a, a);
        CHECK.due("6 users", x.net(a, 4), 3);
        CHECK.due("6 a sort is no net below", x.net(c, 4), 1);
        CHECK.due("6 bad", x.net(-1, 0), WishedResistor.BAD);
        CHECK.due("6 bad", x.net(6, 0), WishedResistor.BAD);
        CHECK.due("6 bad", x.net(0, -1), WishedResistor.BAD);
        CHECK.due("6 bad", x.net(0, 5), WishedResistor.BAD);
    }

    private static void alike() {
        WishedResistor x = Check.box(10, 20, 20, 5);
        int a = x.part(0);
        int b = x.part(1);
        int c = x.part(2);
        int d = x.part(3);
        CHECK.due("12 like ohms", x.alike(b, c), 1);
        CHECK.due("12 sum", x.alike(x.join(0, a, a), b), 1);
        CHECK.due("12 half", x.alike(x.join(1, a, a), d), 1);
        CHECK.due("12 not", x.alike(a, b), 0);
        CHECK.due("12 itself", x.alike(a, a), 1);
        CHECK.due("12 above alike only", x.alike(x.join(1, a, b), Check.read(x, "((a+a)|(a|a))")), 0);
        CHECK.due("12 bad", x.alike(-1, a), WishedResistor.BAD);
        CHECK.due("12 bad", x.alike(a, x.count(0)), WishedResistor.BAD);
        WishedResistor y = Check.box(97, 89, 83, 79);
        int big = Check.read(y, "(a|(b+(c|(d+(a|(b+(c|(d+(a|(b+c))))))))))");
        CHECK.due("12 it is long", y.value(big, 0), WishedResistor.LONG);
        CHECK.due("12 long first", y.alike(big, 0), WishedResistor.LONG);
        CHECK.due("12 long second", y.alike(0, big), WishedResistor.LONG);
        CHECK.due("12 long itself", y.alike(big, big), WishedResistor.LONG);
        CHECK.due("12 bad ahead of long", y.alike(big, -1), WishedResistor.BAD);
    }

    private static void turned() {
        WishedResistor x = Check.box(10, 20, 20);
        int one = Check.read(x, "((a+b)|(a|(b+a)))");
        int two = Check.read(x, "(((a+b)|a)|(b+a))");
        int three = Check.read(x, "((b+a)|(a|(a+b)))");
        CHECK.due("13 root and below", x.turned(one, two), 1);
        CHECK.due("13 below only", x.turned(one, three), 1);
        CHECK.due("13 back", x.turned(two, three), 1);
        CHECK.due("13 itself", x.turned(one, one), 1);
        CHECK.due("13 kinds", x.turned(Check.read(x, "(a+b)"), Check.read(x, "(a|b)")), 0);
        CHECK.due("13 other sorts of like ohms", x.turned(Check.read(x, "(a+b)"), Check.read(x, "(a+c)")), 0);
        CHECK.due("13 parts", x.turned(x.part(1), x.part(2)), 0);
        CHECK.due("13 other nesting", x.turned(Check.read(x, "((a+b)+c)"), Check.read(x, "(a+(b+c))")), 0);
        CHECK.due("13 twice the same", x.turned(Check.read(x, "((a+b)+(a+b))"), Check.read(x, "((b+a)+(a+b))")), 1);
        CHECK.due("13 one of both twice", x.turned(Check.read(x, "((a+b)+(a+b))"), Check.read(x, "((a+b)+(a+a))")), 0);
        CHECK.due("13 bad", x.turned(-1, 0), WishedResistor.BAD);
        CHECK.due("13 bad", x.turned(0, x.count(0)), WishedResistor.BAD);
    }

    private static void print() {
        WishedResistor x = Check.box(1, 2, 3, 4);
        String[] texts = {"a", "d", "(a+b)", "(c|d)", "((a+b)|(c+(d|a)))", "((((((((((((a|b)+c)|d)+a)|b)+c)|d)+a)|b)+c)|d)",
            "(a|(b|(c|(a+(b+(c+(a|(b|(c|(a+(b+c)))))))))))"};
        for (String text : texts) {
            int id = Check.read(x, text);
            if (text.length() > 45) {
                CHECK.due("17 twelve open", id, -111);
            } else {
                CHECK.due("18 length", x.print(id, -1), text.length());
                CHECK.text("18 " + text, Check.printed(x, id), text);
                CHECK.due("18 behind", x.print(id, text.length()), WishedResistor.NOT);
                CHECK.due("18 far behind", x.print(id, Integer.MAX_VALUE), WishedResistor.NOT);
            }
        }
        CHECK.due("18 bad", x.print(0, -2), WishedResistor.BAD);
        CHECK.due("18 bad", x.print(-1, 0), WishedResistor.BAD);
        CHECK.due("18 bad", x.print(40, 0), WishedResistor.BAD);
        CHECK.due("18 bad", x.print(x.count(0), -1), WishedResistor.BAD);
    }
}
