/** All that can be seen of an object, as one text, so that two moments can be compared. */
final class Seen {
    private Seen() {
    }

    /** What WORK may change; some 60 calls for a port of two of each. */
    static String wall(ChalkWall x) {
        StringBuilder seen = new StringBuilder();
        for (int what : new int[] {3, 4, 5, 9}) {
            add(seen, x.told(what));
        }
        for (int row = 0; row < x.told(0); row++) {
            add(seen, x.row(row, 1));
        }
        for (int bid = 0; bid < x.told(1); bid++) {
            add(seen, x.bid(bid, 0));
            add(seen, x.bid(bid, 3));
        }
        for (int writer = 0; writer < x.told(2); writer++) {
            add(seen, x.writer(writer, 2));
        }
        for (int line = 0; line < x.told(4); line++) {
            for (int what = 0; what < 4; what++) {
                add(seen, x.line(line, what));
            }
        }
        return seen.toString();
    }

    /** The same, with the PORT, the LAW, the DEEDS, what was refused, and how much there is. */
    static String all(ChalkWall x) {
        StringBuilder seen = new StringBuilder(wall(x));
        for (int row = 0; row < x.told(0); row++) {
            add(seen, x.row(row, 0));
        }
        for (int bid = 0; bid < x.told(1); bid++) {
            add(seen, x.bid(bid, 1));
            add(seen, x.bid(bid, 2));
        }
        for (int writer = 0; writer < x.told(2); writer++) {
            add(seen, x.writer(writer, 0));
            add(seen, x.writer(writer, 1));
            add(seen, x.writer(writer, 3));
        }
        for (int act = 0; act < 10; act++) {
            add(seen, x.kin(act));
        }
        add(seen, x.would(3, 14, 15, 5, 9, 265, 2, 17));
        add(seen, x.told(6));
        add(seen, x.told(7));
        add(seen, x.told(8));
        add(seen, x.stood(0));
        add(seen, x.stood(1));
        add(seen, x.count(0));
        add(seen, x.count(2));
        add(seen, x.status(0));
        add(seen, x.status(1));
        return seen.toString();
    }

    private static void add(StringBuilder seen, int number) {
        seen.append(number).append(' ');
    }
}
