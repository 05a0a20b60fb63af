/** Counts answers that are not as due; each test has its own. */
final class Check {
    private final String name;
    private int right;
    private int wrong;

    Check(String name) {
        this.name = name;
    }

    void due(String call, long got, long want) {
        if (got == want) {
            right++;
        } else {
            wrong++;
            if (wrong <= 40) {
                System.out.println(name + ": " + call + " answered " + got + ", due is " + want);
            }
        }
    }

    void end() {
        System.out.println(name + ": " + right + " as due, " + wrong + " not");
        if (wrong != 0 || right == 0) {
            System.exit(1);
        }
    }

    /** Puts a text on the tape and reads it. */
    static int read(WishedResistor x, String text) {
        for (int i = 0; i < text.length(); i++) {
            x.feed(text.charAt(i));
        }
        return x.read();
    }

    static String printed(WishedResistor x, int id) {
        StringBuilder text = new StringBuilder();
        int length = x.print(id, -1);
        for (int i = 0; i < length; i++) {
            text.append((char) x.print(id, i));
        }
        return text.toString();
    }

    /** A box of these ohms, without spread. */
    static WishedResistor box(int... ohms) {
        WishedResistor x = new WishedResistor();
        for (int i = 0; i < ohms.length; i++) {
            x.sort(i, ohms[i], 0);
        }
        return x;
    }

    void text(String call, String got, String want) {
        if (!got.equals(want)) {
            System.out.println(name + ": " + call + " is " + got + ", due is " + want);
        }
        due(call, got.equals(want) ? 1 : 0, 1);
    }
}
