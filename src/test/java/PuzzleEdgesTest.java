/** Promises 19 to 24 and 27 to 29 at their boundaries: whom to send, slips, what fits, fractions, crews, chalk. */
public final class PuzzleEdgesTest {
    private static final String NO_BIDS = "IllegalArgumentException: bits of no BIDS (so below).";
    private static final String NO_SUCH =
            "NoSuchElementException: no such ROW, BID, WRITER, line (so below, ahead of others).";
    private static final String OTHER_WHAT = "IllegalArgumentException: another what (so below).";
    private static final String EIGHT_BIDS = "row 30;" + Check.times("bid 0 1;", 8) + "writer 0 1;";
    private static final String CHAIN = "kin 0 1;kin 1 2;kin 2 3;kin 3 4;kin 4 5;kin 5 6;kin 6 7;kin 7 8;kin 8 9;";

    private static final Edges edges = new Edges();

    public static void main(String[] args) {
        sending();
        slips();
        fitting();
        fractions();
        crewsAndChalk();
        edges.end("PuzzleEdgesTest", 19, 20, 21, 22, 23, 24, 27, 28, 29);
    }

    private static void sending() {
        edges.edge(19, NO_BIDS, () -> bits(ChalkWall::send));
        edges.edge(19, "the fewest WRITERS who together remember all of them", PuzzleEdgesTest::fewestWriters);
        edges.edge(19, "of as few the least bits; NONE.", PuzzleEdgesTest::leastBits);
        edges.edge(20, NO_BIDS, () -> bits(ChalkWall::lost));
        edges.edge(20, "The first of told BIDS that nobody remembers; NONE.", PuzzleEdgesTest::lost);
    }

    private static void slips() {
        edges.edge(21, "PATH (0 to 9 both; 0: the same).", PuzzleEdgesTest::pathNumbers);
        edges.edge(21, "PATH from ACT to ACT: how many slips; NONE.", PuzzleEdgesTest::paths);
        edges.edge(22, "ACTS (bits) to which an ACT (0 to 9) comes by slips (it, too).", PuzzleEdgesTest::comes);
    }

    private static void fitting() {
        edges.edge(23, NO_BIDS, () -> bits(ChalkWall::fits));
        edges.edge(23, "of all ways to write some of these on the white wall (each on one ROW, by room alone)",
                PuzzleEdgesTest::byRoomAlone);
        edges.edge(23, "that by which most letters are written", PuzzleEdgesTest::mostLetters);
        edges.edge(24, "of alike ways the first (BID by BID the lowest ROW, not written last)",
                PuzzleEdgesTest::firstWay);
        edges.edge(24, "NONE: it is not written (nor told).", PuzzleEdgesTest::notWritten);
        edges.edge(24, NO_SUCH, PuzzleEdgesTest::fittedOfNone);
        edges.edge(24, NO_BIDS, () -> bits((x, told) -> x.fitted(told, 0)));
    }

    private static void fractions() {
        edges.edge(27, NO_SUCH, PuzzleEdgesTest::stillOfNone);
        edges.edge(27, "(q 0 to 16; n 0 to 12; A 0 to 9)", PuzzleEdgesTest::stillNumbers);
        edges.edge(27, "above (part 0), below (part 1), in least terms.", PuzzleEdgesTest::leastTerms);
        edges.edge(27, "(if its ACT then has no kin, it stays)", PuzzleEdgesTest::staysWithoutKin);
        edges.edge(27, "how likely it is remembered as ACT A behind n dawns", PuzzleEdgesTest::longestStill);
    }

    private static void crewsAndChalk() {
        edges.edge(28, "CREWS by u, v (0 to 20)", PuzzleEdgesTest::crewNumbers);
        edges.edge(28, OTHER_WHAT, PuzzleEdgesTest::crewWhat);
        edges.edge(28, "each has half of its letters (cut) less u", PuzzleEdgesTest::half);
        edges.edge(28, "the one on the higher has v more", PuzzleEdgesTest::higher);
        edges.edge(28, "1 the first (10 times the one's ROW, and the other one's", PuzzleEdgesTest::firstRest);
        edges.edge(28, "RESTS: neither would have more by another ROW", PuzzleEdgesTest::rests);
        edges.edge(28, "NONE), 2 what both have by it together (0 without).", PuzzleEdgesTest::noRest);
        edges.edge(29, NO_SUCH, PuzzleEdgesTest::shareOfNone);
        edges.edge(29, "IllegalArgumentException: bits of no WRITERS.", PuzzleEdgesTest::shareBits);
        edges.edge(29, "What a WRITER gets of n (0 to 400)", PuzzleEdgesTest::shareNumbers);
        edges.edge(29, "(0, if he is none of them)", PuzzleEdgesTest::noneOfThem);
        edges.edge(29, "levelled: no more than C each", PuzzleEdgesTest::noMoreThanChalk);
        edges.edge(29, "a bound, the greatest by which no more than n are given", PuzzleEdgesTest::bound);
        edges.edge(29, "(all, if they are no more)", PuzzleEdgesTest::allOfThem);
    }

    interface Asked {
        long answer(ChalkWall x, int number);
    }

    /** Bits of told BIDS are taken, of none to all of them; a bit beside them is refused. */
    private static void bits(Asked call) {
        ChalkWall eight = Check.withPort(EIGHT_BIDS);
        edges.within(eight, 0, 255, v -> call.answer(eight, v));
        edges.illegal("a bit above", () -> call.answer(eight, 1 << 30));
        edges.illegal("a bit above and one told", () -> call.answer(eight, 257));
        ChalkWall one = Check.withPort("bid 0 1;");
        edges.within(one, 0, 1, v -> call.answer(one, v));
        ChalkWall none = new ChalkWall();
        for (int bit = 0; bit < 32; bit++) {
            int told = 1 << bit;
            same("no bid " + bit, Check.outcome(() -> call.answer(none, told)));
        }
    }

    /** Without BIDS a bit is refused, by whichever of both reasons comes first. */
    private static void same(String what, String outcome) {
        edges.due(what, true, outcome.equals(Check.ILLEGAL) || outcome.equals(Check.NO_SUCH));
    }

    private static void fewestWriters() {
        ChalkWall x = Check.withPort("bid 0 1;bid 0 1;bid 0 1;bid 0 1;writer 0 1;writer 0 1;writer 0 1;writer 0 1;"
                + "knows 0 0;knows 0 1;knows 1 2;knows 2 0;knows 2 1;knows 2 2;");
        edges.due("nobody for nothing", 0, x.send(0));
        edges.due("one is fewer than two with less bits", 4, x.send(7));
        edges.due("nobody remembers it", -1, x.send(8));
        edges.due("nobody remembers one of them", -1, x.send(15));
        ChalkWall y = Check.withPort(Check.times("bid 0 1;", 6) + Check.times("writer 0 1;", 6)
                + "knows 0 5;knows 1 4;knows 2 3;knows 3 2;knows 4 1;knows 5 0;");
        edges.due("all six", 63, y.send(63));
        edges.due("the last for the first", 32, y.send(1));
        edges.due("without writers, for nothing", 0, new ChalkWall().send(0));
        edges.due("without writers", -1, Check.withPort("bid 0 1;").send(1));
    }

    private static void leastBits() {
        ChalkWall x = Check.withPort("bid 0 1;bid 0 1;bid 0 1;" + Check.times("writer 0 1;", 4)
                + "knows 0 0;knows 1 1;knows 2 0;knows 3 1;knows 3 0;knows 1 2;knows 3 2;");
        edges.due("of three who remember one", 1, x.send(1));
        edges.due("of two who remember one", 2, x.send(2));
        edges.due("one of all", 8, x.send(7));
        ChalkWall y = Check.withPort("bid 0 1;bid 0 1;writer 0 1;writer 0 1;writer 0 1;writer 0 1;"
                + "knows 3 0;knows 2 1;knows 1 0;knows 0 1;");
        edges.due("of four pairs", 3, y.send(3));
    }

    private static void lost() {
        ChalkWall x = Check.withPort(EIGHT_BIDS + "knows 0 1;knows 0 3;");
        edges.due("of none", -1, x.lost(0));
        edges.due("of those remembered", -1, x.lost(10));
        edges.due("of all", 0, x.lost(255));
        edges.due("the first is not told", 2, x.lost(254));
        edges.due("the last", 7, x.lost(128 + 8 + 2));
        edges.due("without bids", -1, new ChalkWall().lost(0));
        edges.due("without writers", 0, Check.withPort("bid 0 1;").lost(1));
    }

    private static void pathNumbers() {
        ChalkWall x = Check.withPort(CHAIN);
        edges.within(x, 0, 9, v -> x.path(v, 0));
        edges.within(x, 0, 9, v -> x.path(0, v));
        edges.illegal("both", () -> x.path(10, 10));
        edges.illegal("both", () -> x.path(-1, -1));
        for (int act = 0; act <= 9; act++) {
            edges.due("the same", 0, x.path(act, act));
            edges.due("the same without kin", 0, new ChalkWall().path(act, act));
        }
    }

    private static void paths() {
        ChalkWall x = Check.withPort(CHAIN);
        for (int act = 0; act <= 9; act++) {
            edges.due("from 0 to " + act, act, x.path(0, act));
            edges.due("from 9 to " + act, act == 9 ? 0 : -1, x.path(9, act));
        }
        Check.port(x, CHAIN + "kin 9 0;");
        for (int act = 0; act <= 9; act++) {
            edges.due("round to " + act, (act + 1) % 10, x.path(9, act));
        }
        Check.port(x, "kin 0 1;kin 1 2;kin 2 1;");
        edges.due("into a ring", 2, x.path(0, 2));
        edges.due("round in it", 1, x.path(2, 1));
        edges.due("not out of it", -1, x.path(1, 0));
        edges.due("not beside it", -1, x.path(0, 3));
    }

    private static void comes() {
        ChalkWall x = Check.withPort(CHAIN);
        edges.within(x, 0, 9, x::comes);
        edges.due("to all", 1023, x.comes(0));
        edges.due("to itself", 512, x.comes(9));
        edges.due("without kin", 8, new ChalkWall().comes(3));
        Check.port(x, CHAIN + "kin 9 0;");
        for (int act = 0; act <= 9; act++) {
            edges.due("round from " + act, 1023, x.comes(act));
        }
        Check.port(x, "kin 9 8;kin 8 7;kin 7 8;");
        edges.due("into a ring", 896, x.comes(9));
        edges.due("in a ring", 384, x.comes(8));
    }

    private static void byRoomAlone() {
        ChalkWall x = Check.withPort("row 9;row 9;bid 0 5;bid 0 5;bid 0 9;writer 0 1;");
        edges.due("nobody could write them", 10, x.fits(3));
        ChalkWall y = Check.withPort("row 9;row 9;bid 0 5;bid 0 5;writer 1 60;knows 0 0;");
        Check.work(y, "write 0 0 0;write 0 0 1;");
        edges.due("the wall is white for it", 10, y.fits(3));
        edges.due("nothing is written by it", 2, y.told(4));
        edges.due("none told", 0, y.fits(0));
        edges.due("each once", 5, y.fits(1));
        edges.due("each on one row", 0, Check.withPort("row 4;row 4;bid 0 5;").fits(1));
        edges.due("without rows", 0, Check.withPort("bid 0 5;").fits(1));
        edges.due("without bids", 0, Check.withPort("row 5;").fits(0));
    }

    private static void mostLetters() {
        edges.due("all", 120, Check.withPort(Check.times("row 30;", 4) + Check.times("bid 0 15;", 8)).fits(255));
        edges.due("half", 60, Check.withPort(Check.times("row 15;", 4) + Check.times("bid 0 15;", 8)).fits(255));
        edges.due("none", 0, Check.withPort(Check.times("row 14;", 4) + Check.times("bid 0 15;", 8)).fits(255));
        edges.due("to the last letter", 5, Check.withPort("row 5;bid 0 5;").fits(1));
        edges.due("one letter too long", 0, Check.withPort("row 5;bid 0 6;").fits(1));
        edges.due("not the longest ones first", 10, Check.withPort("row 10;bid 0 6;bid 0 5;bid 0 5;").fits(7));
        edges.due("not the first ones first", 9, Check.withPort("row 9;bid 0 2;bid 0 5;bid 0 4;").fits(7));
        edges.due("two rows", 17,
                Check.withPort("row 10;row 7;bid 0 6;bid 0 5;bid 0 5;bid 0 4;bid 0 3;").fits(31));
    }

    private static void way(String port, int bids, int[] rows) {
        ChalkWall x = Check.withPort(port);
        for (int bid = 0; bid < rows.length; bid++) {
            edges.due("bid " + bid + " of " + bids + " in " + port, rows[bid], x.fitted(bids, bid));
        }
    }

    private static void firstWay() {
        way("row 5;row 5;bid 0 5;bid 0 5;bid 0 5;", 7, new int[] {0, 1, -1});
        way("row 30;row 30;row 30;row 30;bid 0 15;bid 0 15;bid 0 15;", 7, new int[] {0, 0, 1});
        way("row 6;bid 0 3;bid 0 4;bid 0 3;bid 0 2;", 15, new int[] {0, -1, 0, -1});
        // 3 and 4 fill the row as well as 4 and 3 do: the way with an earlier BID written is first.
        way("row 7;bid 0 3;bid 0 4;bid 0 4;bid 0 3;", 15, new int[] {0, 0, -1, -1});
        way("row 7;row 8;bid 0 8;bid 0 7;", 3, new int[] {1, 0});
        way("row 8;row 7;bid 0 7;bid 0 8;", 3, new int[] {1, 0});
        way("row 8;row 7;bid 0 7;bid 0 7;", 3, new int[] {0, 1});
        way("row 2;row 1;row 1;bid 0 1;bid 0 1;bid 0 1;bid 0 1;", 15, new int[] {0, 0, 1, 2});
        way("row 30;row 30;row 30;row 30;" + Check.times("bid 0 15;", 8), 255, new int[] {0, 0, 1, 1, 2, 2, 3, 3});
    }

    private static void notWritten() {
        way("row 4;bid 0 5;bid 0 4;", 3, new int[] {-1, 0});
        way("row 4;bid 0 4;bid 0 4;", 2, new int[] {-1, 0});
        way("row 4;bid 0 4;bid 0 4;", 0, new int[] {-1, -1});
        way("bid 0 4;bid 0 4;", 3, new int[] {-1, -1});
        way("row 30;bid 0 1;bid 0 1;bid 0 1;", 5, new int[] {0, -1, 0});
    }

    private static void fittedOfNone() {
        ChalkWall x = Check.withPort(EIGHT_BIDS);
        edges.due("the last", 0, x.fitted(255, 7));
        edges.onlyTheFirst(x, 8, v -> x.fitted(255, v));
        edges.onlyTheFirst(x, 8, v -> x.fitted(256, v));
        ChalkWall y = new ChalkWall();
        edges.onlyTheFirst(y, 0, v -> y.fitted(0, v));
        edges.onlyTheFirst(y, 0, v -> y.fitted(-1, v));
    }

    private static void stillOfNone() {
        ChalkWall x = Check.withPort(EIGHT_BIDS);
        edges.due("the last", 1, x.still(7, 0, 0, 0, 0));
        edges.onlyTheFirst(x, 8, v -> x.still(v, 0, 0, 0, 0));
        edges.onlyTheFirst(x, 8, v -> x.still(v, 17, 13, 10, 2));
    }

    private static void stillNumbers() {
        ChalkWall x = Check.withPort("bid 0 1;kin 0 1;");
        edges.within(x, 0, 16, v -> x.still(0, v, 12, 9, 1));
        edges.within(x, 0, 12, v -> x.still(0, 16, v, 0, 0));
        edges.within(x, 0, 9, v -> x.still(0, 0, 0, v, 0));
        edges.within(x, 0, 1, v -> x.still(0, 0, 0, 0, v));
    }

    private static void still(ChalkWall x, int[] with, long above, long below) {
        String call = "still(" + with[0] + ", " + with[1] + ", " + with[2] + ", " + with[3] + ")";
        edges.due(call + " above", above, x.still(with[0], with[1], with[2], with[3], 0));
        edges.due(call + " below", below, x.still(with[0], with[1], with[2], with[3], 1));
    }

    private static void leastTerms() {
        ChalkWall x = Check.withPort("bid 0 1;kin 0 1;");
        still(x, new int[] {0, 0, 0, 0}, 1, 1);
        still(x, new int[] {0, 16, 0, 1}, 0, 1);
        still(x, new int[] {0, 0, 12, 0}, 1, 1);
        still(x, new int[] {0, 0, 12, 1}, 0, 1);
        still(x, new int[] {0, 16, 1, 0}, 0, 1);
        still(x, new int[] {0, 16, 1, 1}, 1, 1);
        still(x, new int[] {0, 8, 1, 0}, 1, 2);
        still(x, new int[] {0, 4, 1, 0}, 3, 4);
        still(x, new int[] {0, 6, 1, 0}, 5, 8);
        still(x, new int[] {0, 1, 1, 0}, 15, 16);
        still(x, new int[] {0, 15, 1, 0}, 1, 16);
        still(x, new int[] {0, 8, 2, 1}, 3, 4);
        still(x, new int[] {0, 5, 5, 9}, 0, 1);
    }

    private static void staysWithoutKin() {
        ChalkWall x = Check.withPort("bid 4 1;bid 3 1;kin 3 4;");
        still(x, new int[] {0, 16, 12, 4}, 1, 1);
        still(x, new int[] {0, 7, 3, 4}, 1, 1);
        still(x, new int[] {0, 7, 3, 5}, 0, 1);
        still(x, new int[] {1, 16, 12, 4}, 1, 1);
        still(x, new int[] {1, 8, 2, 4}, 3, 4);
        Check.work(x, "slip 1;");
        still(x, new int[] {1, 8, 2, 4}, 1, 1);
        still(x, new int[] {1, 8, 2, 3}, 0, 1);
    }

    private static void longestStill() {
        ChalkWall x = Check.withPort("bid 0 1;bid 8 1;" + CHAIN);
        // 15 to the 12th, and 12 times 15 to the 11th, of 16 to the 12th.
        still(x, new int[] {0, 1, 12, 0}, 129746337890625L, 281474976710656L);
        still(x, new int[] {0, 1, 12, 1}, 12L * 8649755859375L / 4, 281474976710656L / 4);
        still(x, new int[] {0, 15, 12, 0}, 1, 281474976710656L);
        still(x, new int[] {0, 16, 9, 9}, 1, 1);
        still(x, new int[] {0, 16, 8, 9}, 0, 1);
        still(x, new int[] {0, 16, 12, 9}, 1, 1);
        still(x, new int[] {1, 1, 12, 9}, 281474976710656L - 129746337890625L, 281474976710656L);
        Check.port(x, "bid 0 1;kin 0 1;kin 1 0;");
        still(x, new int[] {0, 16, 12, 0}, 1, 1);
        still(x, new int[] {0, 16, 11, 0}, 0, 1);
        still(x, new int[] {0, 8, 12, 0}, 1, 2);
    }

    private static void crewNumbers() {
        ChalkWall x = Check.withPort("row 10;row 6;");
        edges.within(x, 0, 20, v -> x.crews(v, 0, 0));
        edges.within(x, 0, 20, v -> x.crews(0, v, 0));
        ChalkWall y = new ChalkWall();
        edges.within(y, 0, 20, v -> y.crews(v, v, 2));
    }

    private static void crewWhat() {
        ChalkWall x = Check.withPort("row 10;row 6;");
        edges.within(x, 0, 2, v -> x.crews(0, 0, v));
        edges.within(x, 0, 2, v -> x.crews(20, 20, v));
    }

    private static void crews(String port, int u, int v, int[] due) {
        ChalkWall x = Check.withPort(port);
        for (int what = 0; what < 3; what++) {
            edges.due("crews(" + u + ", " + v + ", " + what + ") of " + port, due[what], x.crews(u, v, what));
        }
    }

    private static void half() {
        crews("row 8;", 0, 0, new int[] {1, 0, 8});
        crews("row 9;", 0, 0, new int[] {1, 0, 8});
        crews("row 1;", 0, 0, new int[] {1, 0, 0});
        crews("row 1;", 1, 0, new int[] {1, 0, -2});
        crews("row 30;", 20, 0, new int[] {1, 0, -10});
        crews("row 1;", 20, 20, new int[] {1, 0, -40});
        // 7 cut is 3, not less than the 3 of the other ROW; of a ROW of 5 it would be 2.
        crews("row 7;row 3;", 0, 0, new int[] {3, 0, 6});
        crews("row 5;row 3;", 0, 0, new int[] {2, 1, 8});
    }

    private static void higher() {
        crews("row 10;row 10;", 0, 0, new int[] {2, 1, 20});
        crews("row 10;row 10;", 0, 20, new int[] {2, 1, 40});
        // On the higher ROW a crew has 1 and 13, or 14, against 15 on the lower one with the other.
        crews("row 30;row 1;", 0, 13, new int[] {1, 0, 30});
        crews("row 30;row 1;", 0, 14, new int[] {3, 0, 30});
        crews("row 30;row 1;", 0, 15, new int[] {2, 1, 46});
        crews("row 15;row 30;", 0, 20, new int[] {3, 1, 65});
        crews("row 14;row 30;", 0, 20, new int[] {1, 11, 30});
        crews("row 16;row 30;", 0, 20, new int[] {2, 1, 66});
    }

    private static void firstRest() {
        crews("row 1;row 1;row 1;row 30;", 0, 0, new int[] {1, 33, 30});
        crews("row 30;row 1;row 1;row 1;", 0, 0, new int[] {1, 0, 30});
        crews("row 1;row 1;row 20;row 30;", 0, 0, new int[] {2, 23, 50});
        crews("row 20;row 1;row 1;row 30;", 0, 0, new int[] {2, 3, 50});
    }

    private static void rests() {
        crews("row 4;row 2;", 0, 0, new int[] {3, 0, 4});
        crews("row 4;row 2;", 1, 0, new int[] {2, 1, 6});
        crews("row 4;row 1;", 0, 0, new int[] {1, 0, 4});
        crews("row 10;row 6;row 12;", 2, 3, new int[] {2, 2, 25});
        crews("row 9;row 9;row 9;row 9;", 0, 0, new int[] {12, 1, 18});
        crews("row 9;row 9;row 9;row 9;", 0, 20, new int[] {6, 3, 38});
    }

    private static void noRest() {
        crews("", 0, 0, new int[] {0, -1, 0});
        crews("bid 0 1;writer 0 1;", 20, 20, new int[] {0, -1, 0});
    }

    private static final String CHALK = "writer 0 9;writer 0 20;writer 0 60;";

    private static void shareOfNone() {
        ChalkWall x = Check.withPort(CHALK);
        edges.due("the last", 60, x.share(2, 7, 400));
        edges.onlyTheFirst(x, 3, v -> x.share(v, 7, 400));
        edges.onlyTheFirst(x, 3, v -> x.share(v, 8, 401));
        ChalkWall y = new ChalkWall();
        edges.onlyTheFirst(y, 0, v -> y.share(v, 0, 0));
    }

    private static void shareBits() {
        ChalkWall x = Check.withPort(CHALK);
        edges.within(x, 0, 7, v -> x.share(0, v, 9));
        ChalkWall y = Check.withPort(Check.times("writer 0 60;", 6));
        edges.within(y, 0, 63, v -> y.share(5, v, 9));
        edges.illegal("a bit above and one told", () -> y.share(0, 65, 9));
    }

    private static void shareNumbers() {
        ChalkWall x = Check.withPort(CHALK);
        edges.within(x, 0, 400, v -> x.share(0, 7, v));
        edges.within(x, 0, 400, v -> x.share(0, 0, v));
        ChalkWall y = Check.withPort(Check.times("writer 0 60;", 6));
        edges.due("nothing", 0, y.share(5, 63, 0));
        edges.due("one less than all", 59, y.share(5, 63, 359));
        edges.due("all", 60, y.share(5, 63, 360));
        edges.due("more than all", 60, y.share(5, 63, 400));
    }

    private static void noneOfThem() {
        ChalkWall x = Check.withPort(CHALK);
        edges.due("nobody", 0, x.share(0, 0, 400));
        edges.due("another", 0, x.share(0, 6, 400));
        edges.due("the one", 9, x.share(0, 1, 400));
        edges.due("the other", 0, x.share(2, 3, 400));
    }

    private static void shares(int group, int n, int[] due) {
        ChalkWall x = Check.withPort(CHALK);
        for (int writer = 0; writer < due.length; writer++) {
            edges.due("share(" + writer + ", " + group + ", " + n + ")", due[writer], x.share(writer, group, n));
        }
    }

    private static void noMoreThanChalk() {
        ChalkWall x = Check.withPort("writer 0 1;writer 0 60;");
        edges.due("the one's chalk", 1, x.share(0, 3, 400));
        edges.due("the other one's chalk", 60, x.share(1, 3, 400));
        edges.due("half each is more than he has", 1, x.share(0, 3, 20));
        edges.due("the rest", 19, x.share(1, 3, 20));
        edges.due("one each", 1, x.share(1, 3, 2));
        edges.due("not one each", 0, x.share(0, 3, 1));
    }

    private static void bound() {
        shares(7, 0, new int[] {0, 0, 0});
        shares(7, 2, new int[] {0, 0, 0});
        shares(7, 3, new int[] {1, 1, 1});
        shares(7, 5, new int[] {1, 1, 1});
        shares(7, 6, new int[] {2, 2, 2});
        shares(7, 26, new int[] {8, 8, 8});
        shares(7, 27, new int[] {9, 9, 9});
        shares(7, 28, new int[] {9, 9, 9});
        shares(7, 29, new int[] {9, 10, 10});
        shares(7, 49, new int[] {9, 20, 20});
        shares(7, 50, new int[] {9, 20, 21});
        shares(4, 59, new int[] {0, 0, 59});
        shares(5, 15, new int[] {7, 0, 7});
    }

    private static void allOfThem() {
        shares(7, 88, new int[] {9, 20, 59});
        shares(7, 89, new int[] {9, 20, 60});
        shares(7, 90, new int[] {9, 20, 60});
        shares(7, 400, new int[] {9, 20, 60});
        shares(1, 9, new int[] {9, 0, 0});
        shares(1, 8, new int[] {8, 0, 0});
        ChalkWall x = Check.withPort("row 30;bid 0 5;writer 0 20;knows 0 0;");
        Check.work(x, "write 0 0 0;");
        edges.due("by the chalk of a day, not by what is left", 20, x.share(0, 1, 400));
    }
}
