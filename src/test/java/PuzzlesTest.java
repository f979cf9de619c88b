/** Promises 19 to 29: whom to send, slips, what fits, what stood, what to ask, fractions, crews, chalk. */
public final class PuzzlesTest {
    private static final Check check = new Check();

    public static void main(String[] args) {
        send();
        lost();
        path();
        comes();
        fits();
        fitted();
        stood();
        ask();
        still();
        stillAtTheEdges();
        crews();
        share();
        check.end("PuzzlesTest");
    }

    private static void send() {
        ChalkWall x = Check.withPort("bid 0 1;bid 0 1;bid 0 1;bid 0 1;writer 0 1;writer 0 1;writer 0 1;writer 0 1;"
                + "knows 0 0;knows 1 0;knows 1 1;knows 2 2;knows 3 1;knows 3 2;");
        check.due("19: nobody is needed", 0, x.send(0));
        check.due("19: of one the least bits", 1, x.send(1));
        check.due("19: of two the least bits", 2, x.send(3));
        check.due("19: of three the least bits", 4, x.send(4));
        check.due("19: one is fewer than two", 8, x.send(6));
        check.due("19: two", 6, x.send(7));
        check.due("19: nobody remembers it", -1, x.send(8));
        check.due("19: nobody remembers it", -1, x.send(15));
        check.illegal("19: no bid", () -> x.send(16));
        check.illegal("19: below 0", () -> x.send(-1));
        check.illegal("19: highest bit", () -> x.send(Integer.MIN_VALUE));
        ChalkWall y = Check.withPort("bid 0 1;");
        check.due("19: no writers", 0, y.send(0));
        check.due("19: no writers", -1, y.send(1));
    }

    private static void lost() {
        ChalkWall x = Check.withPort("bid 0 1;bid 0 1;bid 0 1;bid 0 1;writer 0 1;knows 0 0;knows 0 2;");
        check.due("20: the first", 1, x.lost(15));
        check.due("20: the first that is told", 3, x.lost(8));
        check.due("20: none", -1, x.lost(5));
        check.due("20: none told", -1, x.lost(0));
        check.illegal("20: no bid", () -> x.lost(16));
        check.illegal("20: below 0", () -> x.lost(-1));
    }

    private static final String RING = "kin 0 1;kin 1 2;kin 2 3;kin 3 4;kin 4 5;kin 5 6;kin 6 7;kin 7 8;kin 8 9;";

    private static void path() {
        ChalkWall x = Check.withPort(RING);
        check.due("21: the longest", 9, x.path(0, 9));
        check.due("21: not back", -1, x.path(9, 0));
        check.due("21: the same", 0, x.path(9, 9));
        Check.port(x, RING + "kin 9 0;");
        check.due("21: round", 9, x.path(1, 0));
        check.due("21: round", 1, x.path(9, 0));
        Check.port(x, "kin 0 1;kin 1 2;kin 2 1;");
        check.due("21: into a ring", 2, x.path(0, 2));
        check.due("21: not out of it", -1, x.path(2, 0));
        check.illegal("21: below", () -> x.path(-1, 0));
        check.illegal("21: below", () -> x.path(0, -1));
        check.illegal("21: above", () -> x.path(10, 0));
        check.illegal("21: above", () -> x.path(0, 10));
    }

    private static void comes() {
        ChalkWall x = Check.withPort(RING);
        check.due("22: all", 1023, x.comes(0));
        check.due("22: itself", 512, x.comes(9));
        check.due("22: from 5 on", 992, x.comes(5));
        Check.port(x, "kin 0 1;kin 1 2;kin 2 1;");
        check.due("22: into a ring", 7, x.comes(0));
        check.due("22: in a ring", 6, x.comes(1));
        check.illegal("22: below", () -> x.comes(-1));
        check.illegal("22: above", () -> x.comes(10));
    }

    private static void fits() {
        ChalkWall x = Check.withPort("row 10;row 7;bid 0 6;bid 0 5;bid 0 5;bid 0 4;bid 0 3;");
        check.due("23: full", 17, x.fits(31));
        check.due("23: all of three", 16, x.fits(7));
        check.due("23: none told", 0, x.fits(0));
        check.due("23: one", 6, x.fits(1));
        check.illegal("23: no bid", () -> x.fits(32));
        check.illegal("23: below 0", () -> x.fits(-1));
        ChalkWall y = Check.withPort("row 4;bid 0 5;bid 0 4;bid 0 3;");
        check.due("23: too long", 0, y.fits(1));
        check.due("23: one alone", 4, y.fits(7));
        ChalkWall z = Check.withPort("bid 0 5;");
        check.due("23: no rows", 0, z.fits(1));
    }

    private static void fitted(String port, int bids, int letters, int[] rows) {
        ChalkWall x = Check.withPort(port);
        check.due("24: letters of " + port, letters, x.fits(bids));
        for (int bid = 0; bid < rows.length; bid++) {
            check.due("24: bid " + bid + " of " + port, rows[bid], x.fitted(bids, bid));
        }
    }

    private static void fitted() {
        fitted("row 10;row 6;row 12;bid 0 4;bid 3 5;bid 1 6;bid 8 2;", 15, 17, new int[] {0, 0, 1, 2});
        fitted("row 10;row 6;row 12;bid 0 4;bid 3 5;bid 1 6;bid 8 2;", 10, 7, new int[] {-1, 0, -1, 0});
        fitted("row 5;row 5;bid 0 5;bid 0 5;bid 0 5;", 7, 10, new int[] {0, 1, -1});
        fitted("row 6;bid 0 3;bid 0 4;bid 0 3;bid 0 2;", 15, 6, new int[] {0, -1, 0, -1});
        fitted("row 7;row 4;bid 0 4;bid 0 4;bid 0 3;", 7, 11, new int[] {0, 1, 0});
        fitted("row 7;row 8;bid 0 8;bid 0 7;", 3, 15, new int[] {1, 0});
        fitted("row 2;bid 0 3;bid 0 2;", 3, 2, new int[] {-1, 0});
        fitted("bid 0 3;bid 0 2;", 3, 0, new int[] {-1, -1});
        ChalkWall x = Check.withPort("row 9;row 9;bid 0 5;bid 0 5;writer 1 60;knows 0 0;");
        Check.work(x, "write 0 0 0;write 0 0 1;");
        check.due("23: on the white wall", 10, x.fits(3));
        check.due("24: on the white wall", 1, x.fitted(3, 1));
        check.noSuch("24: no bid", () -> x.fitted(3, 2));
        check.noSuch("24: no bid, ahead of others", () -> x.fitted(9, -1));
        check.illegal("24: bits of no bids", () -> x.fitted(4, 0));
        check.illegal("24: bits of no bids", () -> x.fitted(-1, 0));
    }

    private static void stood(ChalkWall x, String deeds, int[] due) {
        Check.deeds(x, deeds);
        for (int what = 0; what < 3; what++) {
            check.due("25: stood(" + what + ") by '" + deeds + "'", due[what], x.stood(what));
        }
        for (int what = 0; what < 2; what++) {
            check.due("26: ask(" + what + ") by '" + deeds + "'", due[what + 3], x.ask(what));
        }
    }

    private static final String BIDS = "bid 0 1;bid 0 2;bid 3 1;bid 4 1;kin 0 7;";

    private static void stood() {
        ChalkWall x = Check.withPort(BIDS);
        stood(x, "", new int[] {16, 0, 0, 3, 8});
        stood(x, "0 1;", new int[] {12, 1, 0, 3, 6});
        stood(x, "0 1;3 1;", new int[] {6, 5, 4, 4, 3});
        stood(x, "0 0;3 1;", new int[] {2, 4, 4, 4, 1});
        stood(x, "4 1;3 1;0 0;", new int[] {1, 12, 12, 1, 1});
        stood(x, "9 1;", new int[] {0, -1, 0, 0, 0});
        stood(x, "9 0;", new int[] {16, 0, 0, 3, 8});
        Check.deeds(x, "0 1;");
        Check.work(x, "slip 0;");
        check.due("25: as remembered now", 8, x.stood(0));
        check.due("25: as remembered now", 2, x.stood(1));
        check.due("25: sure", 2, x.stood(2));
        check.illegal("25: another what", () -> x.stood(3));
        check.illegal("25: another what", () -> x.stood(-1));
    }

    private static void ask() {
        ChalkWall x = Check.withPort(BIDS);
        stood(x, "0 1;1 0;2 0;3 1;4 1;5 0;6 0;7 0;8 0;9 0;", new int[] {3, 13, 12, -1, -1});
        stood(x, "0 1;1 0;2 0;3 1;4 1;5 0;6 0;7 0;8 0;", new int[] {3, 13, 12, 9, 3});
        check.illegal("26: another what", () -> x.ask(2));
        check.illegal("26: another what", () -> x.ask(-1));
        ChalkWall y = new ChalkWall();
        check.due("26: without bids", 0, y.ask(0));
        check.due("26: without bids", 1, y.ask(1));
    }

    private static void still(ChalkWall x, int bid, int q, int n, int act, long[] due) {
        String call = "27: still(" + bid + ", " + q + ", " + n + ", " + act + ", ";
        check.due(call + "0)", due[0], x.still(bid, q, n, act, 0));
        check.due(call + "1)", due[1], x.still(bid, q, n, act, 1));
    }

    private static void still() {
        ChalkWall x = Check.withPort("bid 0 1;bid 3 1;bid 8 1;kin 0 1;kin 1 2;kin 2 0;kin 3 4;");
        still(x, 0, 8, 1, 1, new long[] {1, 2});
        still(x, 0, 8, 2, 0, new long[] {1, 4});
        still(x, 0, 8, 2, 1, new long[] {1, 2});
        still(x, 0, 8, 3, 0, new long[] {1, 4});
        still(x, 1, 4, 2, 4, new long[] {7, 16});
        still(x, 1, 4, 2, 3, new long[] {9, 16});
        still(x, 2, 16, 12, 8, new long[] {1, 1});
        still(x, 0, 16, 3, 0, new long[] {1, 1});
        still(x, 0, 16, 3, 1, new long[] {0, 1});
        still(x, 0, 16, 4, 1, new long[] {1, 1});
        still(x, 0, 5, 0, 0, new long[] {1, 1});
        still(x, 0, 5, 0, 1, new long[] {0, 1});
        still(x, 0, 0, 12, 0, new long[] {1, 1});
        still(x, 0, 0, 12, 1, new long[] {0, 1});
        still(x, 1, 1, 12, 3, new long[] {129746337890625L, 281474976710656L});
        still(x, 1, 1, 12, 4, new long[] {281474976710656L - 129746337890625L, 281474976710656L});
        still(x, 1, 1, 12, 9, new long[] {0, 1});
        Check.work(x, "slip 1;");
        still(x, 1, 4, 2, 4, new long[] {1, 1});
        Check.work(x, "slip 0;");
        still(x, 0, 8, 1, 2, new long[] {1, 2});
    }

    private static void stillAtTheEdges() {
        ChalkWall x = Check.withPort("bid 0 1;");
        check.noSuch("27: no bid", () -> x.still(1, 0, 0, 0, 0));
        check.noSuch("27: no bid, ahead of others", () -> x.still(-1, 99, 99, 99, 99));
        check.illegal("27: q", () -> x.still(0, 17, 0, 0, 0));
        check.illegal("27: q", () -> x.still(0, -1, 0, 0, 0));
        check.illegal("27: n", () -> x.still(0, 0, 13, 0, 0));
        check.illegal("27: n", () -> x.still(0, 0, -1, 0, 0));
        check.illegal("27: act", () -> x.still(0, 0, 0, 10, 0));
        check.illegal("27: act", () -> x.still(0, 0, 0, -1, 0));
        check.illegal("27: part", () -> x.still(0, 0, 0, 0, 2));
        check.illegal("27: part", () -> x.still(0, 0, 0, 0, -1));
    }

    private static void crews(String port, int u, int v, int[] due) {
        ChalkWall x = Check.withPort(port);
        for (int what = 0; what < 3; what++) {
            check.due("28: crews(" + u + ", " + v + ", " + what + ") of " + port, due[what], x.crews(u, v, what));
        }
    }

    private static void crews() {
        crews("row 10;row 6;row 12;", 2, 3, new int[] {2, 2, 25});
        crews("row 9;", 0, 0, new int[] {1, 0, 8});
        crews("row 9;", 20, 0, new int[] {1, 0, -32});
        crews("row 30;row 1;", 0, 0, new int[] {1, 0, 30});
        crews("row 30;row 1;", 0, 20, new int[] {2, 1, 51});
        crews("row 30;row 10;", 0, 5, new int[] {3, 0, 30});
        crews("row 4;row 2;", 0, 0, new int[] {3, 0, 4});
        crews("row 5;row 2;", 0, 0, new int[] {3, 0, 4});
        crews("row 5;row 2;", 1, 0, new int[] {2, 1, 7});
        crews("row 2;row 30;", 0, 20, new int[] {1, 11, 30});
        crews("", 0, 0, new int[] {0, -1, 0});
        ChalkWall x = Check.withPort("row 9;");
        check.illegal("28: u", () -> x.crews(21, 0, 0));
        check.illegal("28: u", () -> x.crews(-1, 0, 0));
        check.illegal("28: v", () -> x.crews(0, 21, 0));
        check.illegal("28: v", () -> x.crews(0, -1, 0));
        check.illegal("28: another what", () -> x.crews(0, 0, 3));
        check.illegal("28: another what", () -> x.crews(0, 0, -1));
    }

    private static void share(ChalkWall x, int group, int n, int[] due) {
        for (int writer = 0; writer < due.length; writer++) {
            check.due("29: share(" + writer + ", " + group + ", " + n + ")", due[writer], x.share(writer, group, n));
        }
    }

    private static void share() {
        ChalkWall x = Check.withPort("row 30;bid 0 5;writer 0 9;writer 0 20;writer 0 60;knows 1 0;");
        share(x, 7, 0, new int[] {0, 0, 0});
        share(x, 7, 2, new int[] {0, 0, 0});
        share(x, 7, 3, new int[] {1, 1, 1});
        share(x, 7, 27, new int[] {9, 9, 9});
        share(x, 7, 28, new int[] {9, 9, 9});
        share(x, 7, 29, new int[] {9, 10, 10});
        share(x, 7, 49, new int[] {9, 20, 20});
        share(x, 7, 50, new int[] {9, 20, 21});
        share(x, 7, 88, new int[] {9, 20, 59});
        share(x, 7, 89, new int[] {9, 20, 60});
        share(x, 7, 400, new int[] {9, 20, 60});
        share(x, 5, 15, new int[] {7, 0, 7});
        share(x, 0, 15, new int[] {0, 0, 0});
        Check.work(x, "write 1 0 0;");
        share(x, 2, 400, new int[] {0, 20, 0});
        check.noSuch("29: no writer", () -> x.share(3, 7, 1));
        check.noSuch("29: no writer, ahead of others", () -> x.share(-1, 99, 999));
        check.illegal("29: bits of no writers", () -> x.share(0, 8, 1));
        check.illegal("29: bits of no writers", () -> x.share(0, -1, 1));
        check.illegal("29: n", () -> x.share(0, 7, 401));
        check.illegal("29: n", () -> x.share(0, 7, -1));
    }
}
