/** Promises 6, 25 and 26 at their boundaries: the DEEDS, what stood by them, what to ask. */
public final class DeedsEdgesTest {
    private static final String ALL_DONE = "0 1;1 1;2 1;3 1;4 1;5 1;6 1;7 1;8 1;9 1;";
    private static final String NONE_DONE = "0 0;1 0;2 0;3 0;4 0;5 0;6 0;7 0;8 0;9 0;";

    private static final Edges edges = new Edges();

    public static void main(String[] args) {
        edges.edge(6, "DEEDS are a text of up to 60 bytes: { A B \";\" }", DeedsEdgesTest::longestText);
        edges.edge(6, "Likewise the DEEDS (n to 60)", DeedsEdgesTest::nBesideTheBounds);
        edges.edge(6, "how many lines.", DeedsEdgesTest::fromNoLineToTen);
        edges.edge(6, "no A twice", DeedsEdgesTest::noActTwice);
        edges.edge(6, "ACT A (0 to 9) was done (B 1), or not (0)", DeedsEdgesTest::numbers);
        edges.edge(25, "an ACT was done if and only if a BID of the set has it", DeedsEdgesTest::ifAndOnlyIf);
        edges.edge(25, "STOOD: 0 how many sets, 1 the first (NONE), 2 SURE (bits; 0 without).", DeedsEdgesTest::noSet);
        edges.edge(25, "how many, the first (least bits)", DeedsEdgesTest::leastBits);
        edges.edge(25, "SURE: BIDS in all of these", DeedsEdgesTest::sure);
        edges.edge(25, "sets of BIDS (as remembered now) by which all DEEDS are right", DeedsEdgesTest::rememberedNow);
        edges.edge(25, "IllegalArgumentException: another what (so below).", DeedsEdgesTest::stoodWhat);
        edges.edge(26, "the ACT in no line by which, whatever is said, fewest such sets are left at the worst",
                DeedsEdgesTest::fewestAtTheWorst);
        edges.edge(26, "of these the first.", DeedsEdgesTest::firstQuestion);
        edges.edge(26, "NONE: all are in lines.", DeedsEdgesTest::nothingToAsk);
        edges.edge(26, "IllegalArgumentException: another what (so below).", DeedsEdgesTest::askWhat);
        edges.end("DeedsEdgesTest", 6, 25, 26);
    }

    private static void longestText() {
        ChalkWall x = new ChalkWall();
        edges.due("60 bytes", 10, Check.deeds(x, Check.times(" ", 20) + ALL_DONE));
        edges.due("lines", 10, x.told(7));
        edges.due("blanks alone", 0, Check.deeds(x, Check.times(" ", 60)));
        edges.due("no line", 0, x.told(7));
        Check.feed(x, Check.times(" ", 20) + ALL_DONE);
        edges.due("59 of them", -9, x.deeds(59));
        edges.due("they end too early", 59, x.fault());
    }

    private static void nBesideTheBounds() {
        ChalkWall x = new ChalkWall();
        Check.deeds(x, "3 1;4 0;");
        Check.feed(x, ALL_DONE + Check.times(" ", 21));
        edges.due("fed", 80, x.count(1));
        for (int n : new int[] {-1, 61, 80, 81, Integer.MIN_VALUE, Integer.MAX_VALUE}) {
            edges.illegal(n + " of 80 bytes", () -> x.deeds(n));
        }
        edges.due("refused", 6, x.status(1));
        edges.due("the tape stays", 80, x.count(1));
        edges.due("the deeds stay", 2, x.told(7));
        edges.due("60 of them", 10, x.deeds(60));
        edges.due("empty then", 0, x.count(1));
        edges.illegal("one of none", () -> x.deeds(1));
        Check.feed(x, "1 1;2 1;3 1;4 1;xxxx");
        edges.illegal("21 of 20", () -> x.deeds(21));
        edges.due("the first ones alone", 2, x.deeds(8));
        edges.due("a fault", -9, Check.deeds(x, "5 1;x"));
        edges.due("all stays", 2, x.told(7));
        edges.due("an empty text", 0, x.deeds(0));
        edges.due("no line", 0, x.told(7));
    }

    private static void fromNoLineToTen() {
        for (int lines = 0; lines <= 10; lines++) {
            ChalkWall x = new ChalkWall();
            edges.due(lines + " lines", lines, Check.deeds(x, NONE_DONE.substring(0, 4 * lines)));
            edges.due(lines + " lines told", lines, x.told(7));
        }
        ChalkWall x = new ChalkWall();
        edges.due("an 11th", -8, Check.deeds(x, ALL_DONE + "5 1;"));
        edges.due("its place", 40, x.fault());
    }

    private static void noActTwice() {
        for (int act = 0; act <= 9; act++) {
            ChalkWall x = new ChalkWall();
            edges.due("twice " + act, -8, Check.deeds(x, act + " 1;" + act + " 1;"));
            edges.due("at the second", 4, x.fault());
            edges.due("another word of it", -8, Check.deeds(x, act + " 0; 0" + act + " 1;"));
            edges.due("at the second", 5, x.fault());
            edges.due("all stays", 0, x.told(7));
            edges.due("once", 1, Check.deeds(x, act + " 0;"));
            edges.due("anew", 1, Check.deeds(x, act + " 1;"));
        }
    }

    private static void numbers() {
        ChalkWall x = new ChalkWall();
        edges.due("the least", 1, Check.deeds(x, "0 0;"));
        edges.due("the most", 1, Check.deeds(x, "9 1;"));
        edges.due("noughts ahead", 1, Check.deeds(x, "0009 0001;"));
        for (String more : new String[] {"10", "32", "256", "4294967296", "18446744073709551616"}) {
            edges.due("A " + more, -8, Check.deeds(x, more + " 1;"));
            edges.due("place of A", 0, x.fault());
        }
        for (String more : new String[] {"2", "10", "256", "4294967297", "18446744073709551617"}) {
            edges.due("B " + more, -8, Check.deeds(x, "1 " + more + ";"));
            edges.due("place of B", 2, x.fault());
        }
        edges.due("all stays", 1, x.told(7));
    }

    private static void stood(ChalkWall x, String deeds, int sets, int first, int sure) {
        edges.due("lines of '" + deeds + "'", true, Check.deeds(x, deeds) >= 0);
        edges.due("sets by '" + deeds + "'", sets, x.stood(0));
        edges.due("the first by '" + deeds + "'", first, x.stood(1));
        edges.due("sure by '" + deeds + "'", sure, x.stood(2));
    }

    private static final String BIDS = "bid 0 1;bid 0 2;bid 3 1;bid 9 1;kin 0 7;";

    private static void ifAndOnlyIf() {
        ChalkWall x = Check.withPort(BIDS);
        stood(x, "0 1;", 12, 1, 0);
        stood(x, "0 0;", 4, 0, 0);
        stood(x, "9 1;", 8, 8, 8);
        stood(x, "9 0;", 8, 0, 0);
        stood(x, "1 0;", 16, 0, 0);
        stood(x, "0 1;3 1;9 1;", 3, 13, 12);
        stood(x, "0 0;3 0;9 0;", 1, 0, 0);
        stood(x, NONE_DONE, 1, 0, 0);
    }

    private static void noSet() {
        ChalkWall x = Check.withPort(BIDS);
        stood(x, "1 1;", 0, -1, 0);
        stood(x, ALL_DONE, 0, -1, 0);
        stood(new ChalkWall(), "", 1, 0, 0);
        stood(new ChalkWall(), NONE_DONE, 1, 0, 0);
        stood(new ChalkWall(), "0 1;", 0, -1, 0);
        ChalkWall y = Check.withPort(Check.times("bid 9 1;", 8));
        stood(y, "", 256, 0, 0);
        stood(y, "9 1;", 255, 1, 0);
        stood(y, "9 0;", 1, 0, 0);
        stood(y, "8 1;", 0, -1, 0);
    }

    private static void leastBits() {
        ChalkWall x = Check.withPort("bid 5 1;bid 4 1;bid 4 1;bid 5 1;");
        stood(x, "4 1;", 12, 2, 0);
        stood(x, "5 1;", 12, 1, 0);
        stood(x, "4 1;5 1;", 9, 3, 0);
        stood(x, "4 1;5 0;", 3, 2, 0);
    }

    private static void sure() {
        ChalkWall x = Check.withPort("bid 0 1;bid 1 1;bid 2 1;bid 3 1;bid 4 1;bid 5 1;bid 6 1;bid 7 1;");
        stood(x, "0 1;7 1;", 64, 129, 129);
        stood(x, "0 1;1 1;2 1;3 1;4 1;5 1;6 1;7 1;", 1, 255, 255);
        stood(x, "0 1;1 1;2 1;3 1;4 1;5 1;6 1;7 1;8 1;", 0, -1, 0);
    }

    private static void rememberedNow() {
        ChalkWall x = Check.withPort(BIDS);
        Check.work(x, "slip 0;");
        stood(x, "0 1;", 8, 2, 2);
        stood(x, "7 1;", 8, 1, 1);
        x.undo();
        stood(x, "7 1;", 0, -1, 0);
    }

    private static void stoodWhat() {
        ChalkWall x = Check.withPort(BIDS);
        edges.within(x, 0, 2, x::stood);
    }

    private static void ask(ChalkWall x, String deeds, int act, int left) {
        edges.due("lines of '" + deeds + "'", true, Check.deeds(x, deeds) >= 0);
        edges.due("to ask by '" + deeds + "'", act, x.ask(0));
        edges.due("left by '" + deeds + "'", left, x.ask(1));
    }

    private static void fewestAtTheWorst() {
        ChalkWall x = Check.withPort(BIDS);
        // By ACT 0 12 or 4 of 16 are left, by ACT 3 and ACT 9 8 each, by others none or all.
        ask(x, "", 3, 8);
        ask(x, "3 1;", 9, 4);
        ask(x, "3 1;9 0;", 0, 3);
        ask(x, "3 1;9 0;0 1;", 1, 3);
        ChalkWall y = Check.withPort("bid 6 1;bid 6 1;bid 6 1;");
        ask(y, "", 6, 7);
        ask(y, "6 1;", 0, 7);
        ask(y, "6 0;", 0, 1);
    }

    private static void firstQuestion() {
        ChalkWall x = Check.withPort("bid 8 1;bid 5 1;bid 7 1;");
        ask(x, "", 5, 4);
        ask(x, "5 0;", 7, 2);
        ask(x, "5 0;7 0;", 8, 1);
        ask(x, "5 0;7 0;8 0;", 0, 1);
        ask(x, "5 0;7 0;8 0;0 0;", 1, 1);
        ask(new ChalkWall(), "", 0, 1);
        ask(x, "1 1;", 0, 0);
        ask(x, "0 0;1 1;", 2, 0);
    }

    private static void nothingToAsk() {
        ChalkWall x = Check.withPort(BIDS);
        ask(x, NONE_DONE, -1, -1);
        ask(x, ALL_DONE, -1, -1);
        ask(x, ALL_DONE.substring(4), 0, 0);
        ask(x, NONE_DONE.substring(0, 36), 9, 1);
        ask(new ChalkWall(), NONE_DONE, -1, -1);
    }

    private static void askWhat() {
        ChalkWall x = Check.withPort(BIDS);
        edges.within(x, 0, 1, x::ask);
        Check.deeds(x, NONE_DONE);
        edges.within(x, 0, 1, x::ask);
    }
}
