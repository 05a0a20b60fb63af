/** Promises 16 and 17. */
public final class TapeTest {
    private static final Check CHECK = new Check("TapeTest");

    public static void main(String[] args) {
        feed();
        faults();
        longTexts();
        kept();
        full();
        CHECK.end();
    }

    private static void feed() {
        WishedResistor x = Check.box(10);
        CHECK.due("16 bad", x.feed(31), WishedResistor.BAD);
        CHECK.due("16 bad", x.feed(127), WishedResistor.BAD);
        CHECK.due("16 bad", x.feed(-1), WishedResistor.BAD);
        CHECK.due("16 bad", x.feed(97 + 256), WishedResistor.BAD);
        CHECK.due("16 one", x.feed(32), 1);
        CHECK.due("16 two", x.feed(126), 2);
        for (int i = 3; i <= 60; i++) {
            CHECK.due("16 more", x.feed('a'), i);
        }
        CHECK.due("16 full", x.feed('a'), WishedResistor.FULL);
        CHECK.due("16 bad ahead of full", x.feed(127), WishedResistor.BAD);
        CHECK.due("38 tape", x.count(4), 60);
        CHECK.due("17 fault", x.read(), -100);
        CHECK.due("17 tape is empty", x.count(4), 0);
        CHECK.due("16 anew", x.feed('a'), 1);
        CHECK.due("17 net", x.read(), 0);
        CHECK.due("17 tape is empty", x.count(4), 0);
    }

    private static void faults() {
        WishedResistor x = Check.box(10, 20, 0, 5);
        Object[][] due = {{"", 0}, {"c", 0}, {"e", 0}, {"A", 0}, {" a", 0}, {"+", 0}, {"|", 0}, {")", 0}, {"()", 1}, {"(", 1},
            {"(a", 2}, {"(a+", 3}, {"(a+b", 4}, {"(a)", 2}, {"(a+)", 3}, {"(+a)", 1}, {"(a-b)", 2}, {"(a b)", 2}, {"(a+b+a)", 4},
            {"(a+b|a)", 4}, {"((a+b)", 6}, {"((a+b)|c)", 7}, {"(a++b)", 3}, {"aa", 1}, {"a+b", 1}, {"(a+b))", 5}, {"(a+b)a", 5},
            {"(a+b) ", 5}, {"((a|b)(a|b))", 6}, {"(ab)", 2}, {"(a|c~", 3}, {"`", 0}, {"(a+`)", 3}, {"(a,b)", 2}, {"(a*b)", 2},
            {"((a+b)+", 7}, {"(a}", 2}};
        for (Object[] d : due) {
            CHECK.due("17 " + d[0], Check.read(x, (String) d[0]), -100 - (Integer) d[1]);
            CHECK.due("17 nothing kept, tape empty", x.count(0) * 100 + x.count(4), 0);
        }
        CHECK.due("17 a d that is there", Check.read(x, "(d|a)"), 2);
        CHECK.text("17 it is", Check.printed(x, 2), "(d|a)");
    }

    private static void longTexts() {
        WishedResistor x = Check.box(1, 2);
        String twelve = "(((a+a)+(a+a))+(((a+a)+(a+a))+((a+a)+(a+a))))";
        CHECK.due("17 twelve parts", x.net(Check.read(x, twelve), 3), 12);
        CHECK.due("17 a 13th", Check.read(x, "(" + twelve + "+a)"), -100 - 1 - twelve.length() - 1);
        CHECK.due("17 a 13th, other wise wrong too", Check.read(x, "(" + twelve + "+c)"), -100 - 1 - twelve.length() - 1);
        CHECK.due("17 brackets ahead of a 13th", Check.read(x, "(" + twelve + "+(((a"), -100 - 1 - twelve.length() - 4);
        CHECK.due("17 end ahead of a 13th", Check.read(x, "(" + twelve + "+"), -100 - 1 - twelve.length() - 1);
        String eleven = "(a+(a+(a+(a+(a+(a+(a+(a+(a+(a+(a";
        CHECK.due("17 eleven open", Check.read(x, eleven), -100 - eleven.length());
        CHECK.due("17 eleven open are read", x.net(Check.read(x, eleven + "|b)))))))))))"), 3), 12);
        CHECK.due("17 a 12th open", Check.read(x, eleven + "+("), -100 - eleven.length() - 1);
        CHECK.due("17 a 12th open at once", Check.read(x, "(((((((((((((("), -111);
        // Eleven open, three closed, then three more: never twelve at once.
        String left = "(((((((((((a+a)+a)+a)+(((a";
        CHECK.due("17 open again", Check.read(x, left), -100 - left.length());
        CHECK.due("17 open again, one too many", Check.read(x, "(((((((((((a+a)+a)+a)+(((("), -100 - 25);
    }

    private static void kept() {
        WishedResistor x = Check.box(10, 20, 30);
        CHECK.due("17 itself last", Check.read(x, "((c|a)+(a+b))"), 5);
        String[] order = {"c", "a", "(c|a)", "b", "(a+b)", "((c|a)+(a+b))"};
        for (int i = 0; i < order.length; i++) {
            CHECK.text("17 kept " + i, Check.printed(x, i), order[i]);
        }
        CHECK.due("17 what is there", Check.read(x, "(a+b)"), 4);
        CHECK.due("17 a part", Check.read(x, "c"), 0);
        CHECK.due("17 some new", Check.read(x, "((a+b)|(c|a))"), 6);
        CHECK.due("17 nets", x.count(0), 7);
    }

    private static void full() {
        WishedResistor x = Check.box(10, 20, 30, 40);
        x.part(0);
        x.part(1);
        for (int i = 0; x.count(0) < 38; i++) {
            x.join(i % 2, i / 2 % 5, i / 10 % 6);
        }
        CHECK.due("17 fault ahead of full", Check.read(x, "(c+(d|(c+e)))"), -100 - 9);
        CHECK.due("17 fault keeps nothing", x.count(0), 38);
        CHECK.due("17 full", Check.read(x, "(c+(d|(a+b)))"), WishedResistor.FULL);
        CHECK.due("17 what was kept ahead stays", x.count(0), 40);
        CHECK.text("17 kept", Check.printed(x, 38) + Check.printed(x, 39), "cd");
        CHECK.due("17 tape empty", x.count(4), 0);
        CHECK.due("17 full of a part", Check.read(x, "(c|d)"), WishedResistor.FULL);
        CHECK.due("17 there though 40 are", Check.read(x, "d"), 39);
        CHECK.due("17 there though 40 are", Check.read(x, Check.printed(x, 20)), 20);
    }
}
