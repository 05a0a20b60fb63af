/** Objects that hold something of everything, to be asked. */
final class World {
    private World() {
    }

    /** As untaped, and "(a+" on the tape. */
    static void some(WishedResistor x) {
        untaped(x);
        text(x, "(a+");
    }

    /**
     * Sorts a 10, b 15, d 7 ohms, none c; nets 0 a, 1 b, 2 (a+b), 3 (a|b), 4 ((a+b)|(a|b)); five points,
     * edges 0 and 2 from 0 to 1, 1 from 1 to 2, 3 (open) from 2 to 3; trays of any, parts, joins. The
     * image is of less.
     */
    static void untaped(WishedResistor x) {
        x.sort(0, 12, 1);
        x.sort(1, 15, 10);
        x.part(0);
        x.part(1);
        x.join(0, 0, 1);
        x.points(3);
        x.edge(0, 2, 20);
        x.tray(0, 0, 2);
        x.lay(0, 1, 1);
        x.image();
        x.sort(0, 10, 5);
        x.sort(3, 7, 0);
        x.join(1, 0, 1);
        x.join(1, 2, 3);
        x.points(5);
        x.edge(0, 1, 10);
        x.edge(1, 2, 5);
        x.edge(0, 1, 15);
        x.edge(2, 3, 7);
        x.tell(3, 0);
        trays(x);
    }

    /** Tray 0 holds a, (a+b), none, ((a+b)|(a|b)); 1 none, b, none; 2 (a|b), none. */
    private static void trays(WishedResistor x) {
        x.tray(0, 0, 4);
        x.lay(0, 0, 0);
        x.lay(0, 1, 2);
        x.lay(0, 3, 4);
        x.tray(1, 1, 3);
        x.lay(1, 1, 1);
        x.tray(2, 2, 2);
        x.lay(2, 0, 3);
    }

    /** As some, but no tray 1. */
    static void missing(WishedResistor x) {
        some(x);
        x.tray(1, -1, 0);
    }

    /** As some, but no edges. */
    static void noEdges(WishedResistor x) {
        some(x);
        x.points(5);
    }

    /** Nothing but an image of nothing. */
    static void empty(WishedResistor x) {
        x.image();
    }

    static void text(WishedResistor x, String text) {
        for (int i = 0; i < text.length(); i++) {
            x.feed(text.charAt(i));
        }
    }

    /** As many nets as an object holds. */
    static void full(WishedResistor x) {
        nets(x, 40);
    }

    /**
     * Sorts a, b, c, d of 10 to 40 ohms; at least 13 nets: up to 11 one more a in series each, 12 is b,
     * then some beside one another; none of c or d.
     */
    static void nets(WishedResistor x, int many) {
        for (int sort = 0; sort < 4; sort++) {
            x.sort(sort, 10 * (sort + 1), 0);
        }
        x.part(0);
        for (int id = 0; id < 11; id++) {
            x.join(0, id, 0);
        }
        x.part(1);
        for (int i = 0; i < 36 && x.count(0) < many; i++) {
            x.join(1, i % 6, i / 6);
        }
    }

    /** Net 0 is a, the last one LONG, whichever of its parts fails. */
    static int ladder(WishedResistor x) {
        int[] primes = {97, 89, 83, 79};
        for (int sort = 0; sort < 4; sort++) {
            x.sort(sort, primes[sort], 0);
        }
        text(x, "(a|(b+(c|(d+(a|(b+(c|(d+(a|(b+c))))))))))");
        return x.read();
    }

    /** Eight edges between points 0 and 1, as many as there may be. */
    static void edges(WishedResistor x) {
        x.image();
        for (int i = 0; i < 8; i++) {
            x.edge(i % 2, 1 - i % 2, 10 + i);
        }
    }

    /** Sixty bytes on the tape, as many as there may be. */
    static void tape(WishedResistor x) {
        some(x);
        for (int i = 3; i < 60; i++) {
            x.feed('a');
        }
    }
}
