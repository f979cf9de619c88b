/** Promises 9 to 14, 16 to 18 and 30 to 35 at their boundaries: what is told, what stands, what is in force. */
public final class WallEdgesTest {
    private static final String OTHER_WHAT = "IllegalArgumentException: another what (so below).";
    private static final String NO_SUCH =
            "NoSuchElementException: no such ROW, BID, WRITER, line (so below, ahead of others).";
    private static final String PORT = "row 10;row 6;row 12;bid 0 4;bid 3 5;bid 1 6;bid 8 2;"
            + "kin 0 1;kin 1 2;kin 2 0;kin 3 4;writer 1 9;writer 2 20;"
            + "knows 0 0;knows 0 1;knows 1 1;knows 1 2;knows 1 3;";
    // Lines: BID 0 on ROW 1 by 0, BID 2 on ROW 0 by 1, BID 1 on ROW 2 by 1, BID 0 (as ACT 1) on ROW 0 by 0.
    private static final String WORK = "write 0 0 1;write 1 2 0;write 1 1 2;slip 0;write 0 0 0;";
    // One ACT of each, one letter each, everybody remembers them.
    private static final String EIGHT = "row 30;row 30;bid 0 1;bid 1 1;bid 2 1;bid 3 1;bid 6 1;bid 7 1;bid 8 1;bid 9 1;"
            + "kin 0 4;kin 1 5;writer 1 60;knows 0 0;knows 0 1;knows 0 2;knows 0 3;knows 0 4;knows 0 5;knows 0 6;knows 0 7;";

    private static final Edges edges = new Edges();

    public static void main(String[] args) {
        told();
        ofOne();
        matters();
        standing();
        edges.end("WallEdgesTest", 9, 10, 11, 12, 13, 14, 16, 17, 18, 30, 31, 32, 33, 34, 35);
    }

    private static void told() {
        edges.edge(9, OTHER_WHAT, WallEdgesTest::toldWhat);
        edges.edge(9, "0 ROWS, 1 BIDS, 2 WRITERS", WallEdgesTest::toldOfPorts);
        edges.edge(9, "3 the DAY", WallEdgesTest::fromDayNoughtOn);
        edges.edge(9, "4 lines that stand, 5 letters that stand", WallEdgesTest::fromNoLineToTwenty);
        edges.edge(9, "6 ACTS that are IN FORCE (bits)", WallEdgesTest::actsInForce);
        edges.edge(9, "8 STEPS REFUSED by the latest WORK (0 ahead of any, behind undo(), restore())",
                WallEdgesTest::refusedSteps);
        edges.edge(9, "9 lines that were written by now", WallEdgesTest::writtenByNow);
    }

    private static void ofOne() {
        edges.edge(10, NO_SUCH, () -> noSuch((x, v) -> x.row(v, 0), (x, v) -> x.row(v, 4), 3));
        edges.edge(10, OTHER_WHAT, () -> what(3, (x, v) -> x.row(2, v)));
        edges.edge(10, "0 its letters, 1 room, 2 how many lines stand, 3 their ACTS (bits).", WallEdgesTest::rowOf);
        edges.edge(11, NO_SUCH, () -> noSuch((x, v) -> x.bid(v, 0), (x, v) -> x.bid(v, 6), 4));
        edges.edge(11, OTHER_WHAT, () -> what(5, (x, v) -> x.bid(3, v)));
        edges.edge(11, "3 how often it slipped, 4 who remembers it (bits), 5 how many lines of it stand.",
                WallEdgesTest::bidOf);
        edges.edge(12, NO_SUCH, () -> noSuch((x, v) -> x.writer(v, 0), (x, v) -> x.writer(v, 5), 2));
        edges.edge(12, OTHER_WHAT, () -> what(4, (x, v) -> x.writer(1, v)));
        edges.edge(12, "2 letters of chalk he has, 3 BIDS he remembers (bits), 4 how many lines of his stand.",
                WallEdgesTest::writerOf);
        edges.edge(13, NO_SUCH, () -> noSuch((x, v) -> x.line(v, 0), (x, v) -> x.line(v, 5), 4));
        edges.edge(13, OTHER_WHAT, () -> what(4, (x, v) -> x.line(3, v)));
        edges.edge(13, "Of a line (of those that stand, as they were written)", WallEdgesTest::linesThatStand);
        edges.edge(13, "\"writer\" (who wrote it), \"act\" (what it bids), \"day\", \"reach\" (R of who wrote it)",
                WallEdgesTest::wordsOfLaw);
        edges.edge(13, "\"old\" (how many lines were written ahead of it, of those that stand)", WallEdgesTest::old);
        edges.edge(13, "\"place\" (how many lines are ahead of it in its ROW)", WallEdgesTest::place);
        edges.edge(14, "The ACT an ACT (0 to 9) slips to; NONE.", WallEdgesTest::kin);
    }

    private static void matters() {
        edges.edge(16, "IN FORCE in a MATTER (0 to 4): 0 the ACT, 1 the line by which it is; NONE: none is.",
                WallEdgesTest::forceNumbers);
        edges.edge(16, "Two ACTS 2 i and 2 i and 1 contradict one another (i 0 to 4: a MATTER).",
                WallEdgesTest::mattersOfActs);
        edges.edge(16, "of the greatest FORCE, if that is above 0", WallEdgesTest::aboveNought);
        edges.edge(16, "of alike ones the one written first.", WallEdgesTest::writtenFirst);
        edges.edge(17, "MATTERS (bits) of which lines of both ACTS stand.", WallEdgesTest::torn);
        edges.edge(18, "Whether a WRITER could write a BID on a ROW now.", WallEdgesTest::can);
        edges.edge(18, NO_SUCH, WallEdgesTest::canOfNone);
    }

    private static void standing() {
        edges.edge(30, "Letters that stand on ROWS from one on (0: all; to 4).", WallEdgesTest::above);
        edges.edge(31, "of alike ones the first, its FORCE (1); NONE, 0: none stands.", WallEdgesTest::mightiest);
        edges.edge(31, OTHER_WHAT, () -> what(1, ChalkWall::mightiest));
        edges.edge(32, "BIDS (bits) of which no line stands that bids their ACT as it was told.", WallEdgesTest::missing);
        edges.edge(33, "WRITERS (bits) who could write no BID on any ROW now.", WallEdgesTest::idle);
        edges.edge(34, "of those that stand on a ROW; NONE.", WallEdgesTest::ends);
        edges.edge(34, NO_SUCH, () -> noSuch((x, v) -> x.ends(v, 0), (x, v) -> x.ends(v, 2), 3));
        edges.edge(34, OTHER_WHAT, () -> what(1, (x, v) -> x.ends(2, v)));
        edges.edge(35, "together (32 bits, it wraps).", WallEdgesTest::loud);
        edges.edge(35, NO_SUCH, () -> noSuch(ChalkWall::loud, ChalkWall::loud, 2));
    }

    interface Asked {
        long answer(ChalkWall x, int number);
    }

    private static ChalkWall written() {
        ChalkWall x = Check.withPort(PORT);
        edges.due("the work is done", 5, Check.work(x, WORK));
        return x;
    }

    /** A number that is none of so many is refused, also where the other number is wrong. */
    private static void noSuch(Asked rightly, Asked wrongly, int many) {
        ChalkWall x = written();
        edges.due("the first", true, !Check.outcome(() -> rightly.answer(x, 0)).startsWith("throws"));
        edges.due("the last", true, !Check.outcome(() -> rightly.answer(x, many - 1)).startsWith("throws"));
        edges.onlyTheFirst(x, many, v -> rightly.answer(x, v));
        edges.onlyTheFirst(x, many, v -> wrongly.answer(x, v));
        ChalkWall none = new ChalkWall();
        edges.onlyTheFirst(none, 0, v -> rightly.answer(none, v));
        edges.onlyTheFirst(none, 0, v -> wrongly.answer(none, v));
    }

    private static void what(int most, Asked call) {
        ChalkWall x = written();
        edges.within(x, 0, most, v -> call.answer(x, v));
    }

    private static void toldWhat() {
        what(9, ChalkWall::told);
        ChalkWall x = new ChalkWall();
        edges.within(x, 0, 9, x::told);
    }

    private static void toldOfPorts() {
        for (int rows = 0; rows <= 4; rows++) {
            edges.due("rows", rows, Check.withPort(Check.times("row 1;", rows)).told(0));
        }
        for (int bids = 0; bids <= 8; bids++) {
            edges.due("bids", bids, Check.withPort(Check.times("bid 0 1;", bids)).told(1));
        }
        for (int writers = 0; writers <= 6; writers++) {
            edges.due("writers", writers, Check.withPort(Check.times("writer 0 1;", writers)).told(2));
        }
    }

    private static void fromDayNoughtOn() {
        ChalkWall x = new ChalkWall();
        edges.due("at first", 0, x.told(3));
        int[] days = {192, 384, 500, 500};
        for (int day : days) {
            Check.work(x, "again 30[again 30[night;];];");
            edges.due("then", day, x.told(3));
        }
        edges.due("undone", 3, x.undo());
        edges.due("the last day", 500, x.told(3));
        edges.due("undone", 2, x.undo());
        edges.due("a day ahead of it", 384, x.told(3));
    }

    private static void fromNoLineToTwenty() {
        ChalkWall x = Check.withPort("row 30;row 30;bid 0 3;writer 1 60;knows 0 0;");
        edges.due("no line", 0, x.told(4));
        edges.due("no letter", 0, x.told(5));
        Check.work(x, "again 11[write 0 0 0;];again 10[write 0 0 1;];");
        edges.due("twenty lines", 20, x.told(4));
        edges.due("sixty letters", 60, x.told(5));
        Check.work(x, "rain 1;");
        edges.due("ten lines", 10, x.told(4));
        edges.due("thirty letters", 30, x.told(5));
        Check.work(x, "night;");
        edges.due("no line", 0, x.told(4));
        edges.due("no letter", 0, x.told(5));
    }

    private static void actsInForce() {
        ChalkWall x = Check.withPort(EIGHT);
        edges.due("a white wall", 0, x.told(6));
        Check.work(x, "slip 0;slip 1;write 0 0 1;write 0 2 1;write 0 4 1;write 0 7 1;");
        edges.due("four acts", 16 | 4 | 64 | 512, x.told(6));
        Check.work(x, "write 0 1 0;write 0 3 0;write 0 5 0;write 0 6 0;");
        edges.due("the higher row has more", 16 | 4 | 64 | 512, x.told(6));
        Check.law(x, "old");
        edges.due("the last has more", 32 | 8 | 128 | 256, x.told(6));
        Check.law(x, "0");
        edges.due("nought is not above 0", 0, x.told(6));
        ChalkWall y = Check.withPort(EIGHT);
        Check.work(y, "write 0 0 0;");
        edges.due("the first act", 1, y.told(6));
        Check.work(y, "write 0 1 1;write 0 2 0;write 0 5 0;write 0 6 0;slip 0;write 0 0 0;");
        edges.due("one of each matter", 2 | 4 | 16 | 128 | 256, y.told(6));
    }

    private static void refusedSteps() {
        ChalkWall x = Check.withPort(PORT);
        edges.due("ahead of any", 0, x.told(8));
        edges.due("a fault", -9, Check.work(x, "slip 3;x"));
        edges.due("ahead of any", 0, x.told(8));
        Check.work(x, "again 30[slip 3;slip 3;slip 3;slip 3;slip 3;slip 3;slip 3;];");
        edges.due("as many as can be begun", 199, x.told(8));
        x.image();
        Check.work(x, "slip 3;");
        edges.due("of the latest", 1, x.told(8));
        edges.due("undone", 1, x.undo());
        edges.due("behind undo", 0, x.told(8));
        Check.work(x, "slip 3;slip 3;");
        edges.due("of the latest", 2, x.told(8));
        edges.due("a text with a fault is not done", -8, Check.work(x, "rain 9;"));
        edges.due("of the latest that was", 2, x.told(8));
        edges.due("restored", 0, x.restore());
        edges.due("behind restore", 0, x.told(8));
        Check.work(x, "slip 3;");
        x.work(0);
        edges.due("none by the latest", 0, x.told(8));
        Check.work(x, "slip 3;");
        Check.port(x, PORT);
        edges.due("behind a port", 0, x.told(8));
    }

    private static void writtenByNow() {
        ChalkWall x = Check.withPort(PORT);
        edges.due("none", 0, x.told(9));
        Check.work(x, WORK);
        edges.due("four", 4, x.told(9));
        Check.work(x, "write 0 0 0;");
        edges.due("a refused one is not written", 4, x.told(9));
        Check.work(x, "rain 4;night;write 0 0 0;");
        edges.due("what is gone was written", 5, x.told(9));
        x.undo();
        edges.due("what is undone was not", 4, x.told(9));
        ChalkWall y = Check.withPort("row 1;bid 0 1;writer 0 1;knows 0 0;");
        for (int i = 0; i < 16; i++) {
            Check.work(y, "again 30[write 0 0 0;night;];");
        }
        edges.due("more than stand at one time", 480, y.told(9));
    }

    private static void rowOf() {
        ChalkWall x = Check.withPort("row 30;row 1;bid 9 15;bid 0 1;writer 1 60;knows 0 0;knows 0 1;");
        int[] empty = {30, 30, 0, 0};
        int[] full = {30, 0, 2, 512};
        for (int what = 0; what < 4; what++) {
            edges.due("an empty row, " + what, empty[what], x.row(0, what));
        }
        Check.work(x, "write 0 0 0;write 0 0 0;write 0 1 1;");
        for (int what = 0; what < 4; what++) {
            edges.due("a full row, " + what, full[what], x.row(0, what));
        }
        Check.work(x, "rain 1;write 0 1 0;write 0 0 0;write 0 1 0;");
        edges.due("the first act and the last", 513, x.row(0, 3));
        edges.due("a row of one letter", 0, x.row(1, 1));
        edges.due("the lowest act", 1, x.row(1, 3));
        Check.work(x, "rain 1;");
        for (int what = 0; what < 4; what++) {
            edges.due("an empty row, " + what, empty[what], x.row(0, what));
        }
    }

    private static void bidOf() {
        ChalkWall x = Check.withPort("row 30;bid 9 1;bid 4 15;kin 9 8;kin 8 9;" + Check.times("writer 0 60;", 6)
                + "knows 0 0;knows 5 0;");
        int[] first = {9, 1, 9, 0, 33, 0};
        int[] second = {4, 15, 4, 0, 0, 0};
        for (int what = 0; what < 6; what++) {
            edges.due("bid 0, " + what, first[what], x.bid(0, what));
            edges.due("bid 1, " + what, second[what], x.bid(1, what));
        }
        Check.work(x, "again 20[write 0 0 0;];again 29[slip 0;];slip 1;");
        int[] then = {8, 1, 9, 29, 33, 20};
        for (int what = 0; what < 6; what++) {
            edges.due("bid 0 then, " + what, then[what], x.bid(0, what));
            edges.due("bid 1 then, " + what, second[what], x.bid(1, what));
        }
        Check.work(x, "rain 1;slip 0;");
        edges.due("no line of it", 0, x.bid(0, 5));
        edges.due("as it was told", 9, x.bid(0, 0));
        edges.due("and yet it slipped", 30, x.bid(0, 3));
    }

    private static void writerOf() {
        ChalkWall x = Check.withPort("row 30;" + Check.times("bid 0 3;", 8) + "writer 0 60;writer 3 1;writer 0 60;"
                + "knows 0 0;knows 0 7;knows 1 4;");
        int[][] due = {{0, 60, 60, 129, 0}, {3, 1, 1, 16, 0}, {0, 60, 60, 0, 0}};
        for (int writer = 0; writer < 3; writer++) {
            for (int what = 0; what < 5; what++) {
                edges.due("writer " + writer + ", " + what, due[writer][what], x.writer(writer, what));
            }
        }
        Check.work(x, "again 10[write 0 7 0;];write 1 4 0;");
        int[] then = {0, 60, 30, 129, 10};
        for (int what = 0; what < 5; what++) {
            edges.due("writer 0 then, " + what, then[what], x.writer(0, what));
            edges.due("writer 1 then, " + what, due[1][what], x.writer(1, what));
        }
        Check.work(x, "rain 1;");
        edges.due("no line of his", 0, x.writer(0, 4));
        edges.due("no chalk back", 30, x.writer(0, 2));
    }

    private static void linesThatStand() {
        ChalkWall x = written();
        int[][] due = {{0, 0, 1, 0, 14}, {2, 1, 0, 1, 6}, {1, 3, 2, 1, 25}, {0, 1, 0, 0, 4}};
        for (int line = 0; line < 4; line++) {
            for (int what = 0; what < 5; what++) {
                edges.due("line " + line + ", " + what, due[line][what], x.line(line, what));
            }
        }
        Check.work(x, "rain 1;");
        edges.due("the second is now the third", 1, x.line(1, 0));
        edges.onlyTheFirst(x, 2, v -> x.line(v, 0));
        Check.work(x, "night;");
        edges.onlyTheFirst(x, 0, v -> x.line(v, 0));
        ChalkWall y = Check.withPort(EIGHT);
        Check.work(y, "again 19[write 0 0 0;];write 0 7 1;");
        edges.due("the 20th", 9, y.line(19, 1));
        edges.onlyTheFirst(y, 20, v -> y.line(v, 4));
    }

    private static void wordsOfLaw() {
        ChalkWall x = Check.withPort("row 9;row 9;row 9;row 15;bid 0 1;bid 8 15;kin 8 9;"
                + Check.times("writer 0 60;", 5) + "writer 3 60;knows 0 0;knows 5 1;");
        Check.work(x, "again 5[night;];write 0 0 0;slip 1;write 5 1 3;slip 0;");
        String[] laws = {"row", "letters", "writer", "act", "day", "reach", "row*10-letters"};
        int[] first = {0, 1, 0, 0, 5, 0, -1};
        int[] second = {3, 15, 5, 9, 5, 3, 15};
        for (int i = 0; i < laws.length; i++) {
            Check.law(x, laws[i]);
            edges.due("the first line's " + laws[i], first[i], x.line(0, 4));
            edges.due("the second line's " + laws[i], second[i], x.line(1, 4));
        }
    }

    private static void old() {
        ChalkWall x = Check.withPort(EIGHT);
        Check.law(x, "old");
        Check.work(x, "write 0 0 0;write 0 1 1;again 18[write 0 2 1;];");
        for (int line = 0; line < 20; line++) {
            edges.due("line " + line, line, x.line(line, 4));
        }
        Check.work(x, "rain 1;");
        edges.due("the first that stands", 0, x.line(0, 4));
        edges.due("the last that stands", 18, x.line(18, 4));
    }

    private static void place() {
        ChalkWall x = Check.withPort(EIGHT);
        Check.law(x, "place");
        Check.work(x, "write 0 0 0;again 18[write 0 1 1;];write 0 2 0;");
        edges.due("the first of its row", 0, x.line(0, 4));
        edges.due("the first of its row", 0, x.line(1, 4));
        edges.due("the 18th of its row", 17, x.line(18, 4));
        edges.due("the second of its row", 1, x.line(19, 4));
        Check.work(x, "night;again 20[write 0 0 0;];");
        edges.due("the 20th of its row", 19, x.line(19, 4));
    }

    private static void kin() {
        ChalkWall x = Check.withPort("kin 0 9;kin 9 0;");
        edges.due("of the first", 9, x.kin(0));
        edges.due("of the last", 0, x.kin(9));
        for (int act = 1; act < 9; act++) {
            edges.due("none", -1, x.kin(act));
        }
        edges.within(x, 0, 9, x::kin);
    }

    private static void forceNumbers() {
        ChalkWall x = written();
        edges.within(x, 0, 4, v -> x.force(v, 0));
        edges.within(x, 0, 4, v -> x.force(v, 1));
        edges.within(x, 0, 1, v -> x.force(0, v));
        edges.within(x, 0, 1, v -> x.force(4, v));
        int[] acts = {0, 3, -1, -1, -1};
        int[] lines = {0, 2, -1, -1, -1};
        for (int matter = 0; matter < 5; matter++) {
            edges.due("act in " + matter, acts[matter], x.force(matter, 0));
            edges.due("line in " + matter, lines[matter], x.force(matter, 1));
        }
        Check.work(x, "night;");
        for (int matter = 0; matter < 5; matter++) {
            edges.due("no act in " + matter, -1, x.force(matter, 0));
            edges.due("no line in " + matter, -1, x.force(matter, 1));
        }
    }

    private static void mattersOfActs() {
        for (int act = 0; act <= 9; act++) {
            ChalkWall x = Check.withPort("row 9;bid " + act + " 1;writer 0 9;knows 0 0;");
            Check.work(x, "write 0 0 0;");
            for (int matter = 0; matter < 5; matter++) {
                boolean of = act == 2 * matter || act == 2 * matter + 1;
                edges.due("act " + act + " in " + matter, of ? act : -1, x.force(matter, 0));
            }
        }
    }

    private static void aboveNought() {
        ChalkWall x = Check.withPort("row 9;bid 4 1;bid 5 1;writer 0 9;knows 0 0;knows 0 1;");
        Check.work(x, "write 0 0 0;write 0 1 0;");
        String[] laws = {"1", "0", "0-1", "512*512*512*16", "512*512*512*16-1", "old", "0-old", "1-old*2"};
        int[] lines = {0, -1, -1, -1, 0, 1, -1, 0};
        for (int i = 0; i < laws.length; i++) {
            Check.law(x, laws[i]);
            edges.due("line by " + laws[i], lines[i], x.force(2, 1));
            edges.due("act by " + laws[i], lines[i] == -1 ? -1 : 4 + lines[i], x.force(2, 0));
        }
    }

    private static void writtenFirst() {
        ChalkWall x = Check.withPort("row 5;row 5;bid 4 1;bid 5 1;writer 1 60;knows 0 0;knows 0 1;");
        Check.work(x, "write 0 1 0;write 0 0 0;");
        edges.due("the first of two", 5, x.force(2, 0));
        edges.due("its line", 0, x.force(2, 1));
        Check.work(x, "write 0 0 1;write 0 1 1;");
        edges.due("the first of two on a higher row", 4, x.force(2, 0));
        edges.due("its line", 2, x.force(2, 1));
        Check.law(x, "999");
        edges.due("the first of four", 0, x.force(2, 1));
        Check.work(x, "rain 1;");
        edges.due("the first of those that stand", 4, x.force(2, 0));
        edges.due("its line", 0, x.force(2, 1));
    }

    private static void torn() {
        ChalkWall x = Check.withPort(EIGHT);
        edges.due("a white wall", 0, x.torn());
        Check.work(x, "write 0 1 0;write 0 2 0;write 0 5 0;write 0 6 0;");
        edges.due("1 and 2, 7 and 8 are of two matters", 0, x.torn());
        Check.work(x, "write 0 0 1;");
        edges.due("the first", 1, x.torn());
        Check.work(x, "write 0 7 1;");
        edges.due("the first and the last", 17, x.torn());
        Check.work(x, "write 0 3 1;write 0 4 1;slip 0;slip 1;write 0 0 1;write 0 1 1;");
        edges.due("all", 31, x.torn());
        Check.law(x, "0");
        edges.due("without force, too", 31, x.torn());
        Check.work(x, "rain 1;");
        edges.due("by lines that are left", 4, x.torn());
        ChalkWall y = Check.withPort("row 9;bid 0 1;writer 0 9;knows 0 0;");
        Check.work(y, "write 0 0 0;write 0 0 0;");
        edges.due("one act twice", 0, y.torn());
    }

    private static void can() {
        ChalkWall x = Check.withPort("row 3;row 30;row 1;bid 2 3;bid 4 1;writer 1 20;writer 2 60;"
                + "knows 0 0;knows 0 1;knows 1 1;");
        edges.due("room to the last letter", true, x.can(0, 0, 0));
        edges.due("not remembered", false, x.can(1, 0, 0));
        edges.due("to his reach", true, x.can(0, 1, 1));
        edges.due("above his reach", false, x.can(0, 1, 2));
        edges.due("more letters than the row has", false, x.can(0, 0, 2));
        Check.work(x, "write 0 0 0;again 5[write 0 0 1;];write 0 1 1;");
        edges.due("a full row", false, x.can(0, 1, 0));
        edges.due("one letter of chalk for three", false, x.can(0, 0, 1));
        edges.due("one letter of chalk for one", true, x.can(0, 1, 1));
        Check.work(x, "again 12[write 1 1 1;];");
        edges.due("nineteen lines", true, x.can(1, 1, 2));
        Check.work(x, "write 0 1 1;");
        edges.due("no chalk", 0, x.writer(0, 2));
        edges.due("twenty lines", false, x.can(1, 1, 2));
        Check.work(x, "night;");
        edges.due("a new day", true, x.can(0, 0, 0));
        edges.due("asking writes nothing", 0, x.told(4));
    }

    private static void canOfNone() {
        ChalkWall x = written();
        edges.onlyTheFirst(x, 2, v -> x.can(v, 0, 0) ? 1 : 0);
        edges.onlyTheFirst(x, 4, v -> x.can(0, v, 0) ? 1 : 0);
        edges.onlyTheFirst(x, 3, v -> x.can(0, 0, v) ? 1 : 0);
        edges.noSuch("none of three", () -> x.can(-1, -1, -1) ? 1 : 0);
        edges.due("the last of each", true, x.can(1, 3, 2));
        ChalkWall y = new ChalkWall();
        edges.onlyTheFirst(y, 0, v -> y.can(v, v, v) ? 1 : 0);
    }

    private static void above() {
        ChalkWall x = Check.withPort("row 9;row 9;row 9;row 9;bid 0 1;bid 1 2;bid 2 3;bid 3 4;writer 3 60;"
                + "knows 0 0;knows 0 1;knows 0 2;knows 0 3;");
        edges.within(x, 0, 4, x::above);
        for (int row = 0; row <= 4; row++) {
            edges.due("a white wall", 0, x.above(row));
        }
        Check.work(x, "write 0 0 0;write 0 1 1;write 0 2 2;write 0 3 3;");
        int[] letters = {10, 9, 7, 4, 0};
        for (int row = 0; row <= 4; row++) {
            edges.due("from " + row, letters[row], x.above(row));
        }
        ChalkWall y = new ChalkWall();
        edges.within(y, 0, 4, y::above);
        ChalkWall z = written();
        edges.due("a row that is not there", 0, z.above(3));
        edges.due("the highest row", 5, z.above(2));
    }

    private static void mightiest() {
        ChalkWall x = Check.withPort(PORT);
        edges.due("none stands", -1, x.mightiest(0));
        edges.due("none stands", 0, x.mightiest(1));
        Check.work(x, WORK);
        String[] laws = {"7", "0", "0-7", "512*512*512*16", "old", "0-old", "row", "0-row"};
        int[] lines = {0, 0, 0, 0, 3, 0, 2, 1};
        int[] forces = {7, 0, -7, Integer.MIN_VALUE, 3, 0, 2, 0};
        for (int i = 0; i < laws.length; i++) {
            Check.law(x, laws[i]);
            edges.due("line by " + laws[i], lines[i], x.mightiest(0));
            edges.due("force by " + laws[i], forces[i], x.mightiest(1));
        }
        Check.work(x, "night;");
        edges.due("none stands", -1, x.mightiest(0));
        edges.due("none stands", 0, x.mightiest(1));
    }

    private static void missing() {
        edges.due("no bids", 0, new ChalkWall().missing());
        ChalkWall x = Check.withPort("row 9;row 9;bid 0 1;bid 0 1;bid 1 1;kin 0 1;kin 1 0;writer 1 60;"
                + "knows 0 0;knows 0 1;knows 0 2;");
        edges.due("a white wall", 7, x.missing());
        Check.work(x, "write 0 0 0;");
        edges.due("another's line of that act is not its own", 6, x.missing());
        Check.work(x, "slip 1;write 0 1 0;");
        edges.due("its own line of another act is none", 6, x.missing());
        Check.work(x, "slip 1;write 0 1 1;write 0 2 1;");
        edges.due("none is missing", 0, x.missing());
        Check.work(x, "slip 0;");
        edges.due("what is remembered does not count", 0, x.missing());
        Check.work(x, "rain 1;");
        edges.due("gone by rain", 1, x.missing());
        Check.work(x, "night;");
        edges.due("all", 7, x.missing());
    }

    private static void idle() {
        edges.due("no writers", 0, new ChalkWall().idle());
        edges.due("no bids", 3, Check.withPort("row 5;writer 0 1;writer 0 1;").idle());
        edges.due("no rows", 1, Check.withPort("bid 0 1;writer 0 9;knows 0 0;").idle());
        edges.due("nothing remembered", 1, Check.withPort("row 5;bid 0 1;writer 0 9;").idle());
        edges.due("reach", 1,
                Check.withPort("row 1;row 9;bid 0 2;writer 0 9;writer 1 9;knows 0 0;knows 1 0;").idle());
        edges.due("chalk", 1, Check.withPort("row 9;bid 0 2;writer 0 1;writer 0 2;knows 0 0;knows 1 0;").idle());
        ChalkWall x = Check.withPort("row 2;bid 0 2;bid 1 1;writer 0 9;writer 0 9;knows 0 0;knows 1 0;knows 1 1;");
        edges.due("none", 0, x.idle());
        Check.work(x, "write 1 1 0;");
        edges.due("room for one letter", 1, x.idle());
        Check.work(x, "write 1 1 0;");
        edges.due("no room", 3, x.idle());
        Check.work(x, "night;");
        edges.due("a new day", 0, x.idle());
        ChalkWall y = Check.withPort("row 30;row 30;bid 0 1;" + Check.times("writer 1 60;", 6) + "knows 0 0;knows 5 0;");
        edges.due("four of six", 30, y.idle());
        Check.work(y, "again 19[write 0 0 0;];");
        edges.due("nineteen lines", 30, y.idle());
        Check.work(y, "write 0 0 0;");
        edges.due("twenty lines", 63, y.idle());
    }

    private static void ends() {
        ChalkWall x = Check.withPort(PORT);
        for (int row = 0; row < 3; row++) {
            edges.due("none on " + row, -1, x.ends(row, 0));
            edges.due("none on " + row, -1, x.ends(row, 1));
        }
        Check.work(x, WORK);
        int[][] due = {{1, 3}, {0, 0}, {2, 2}};
        for (int row = 0; row < 3; row++) {
            edges.due("first on " + row, due[row][0], x.ends(row, 0));
            edges.due("last on " + row, due[row][1], x.ends(row, 1));
        }
        Check.work(x, "rain 1;");
        edges.due("none", -1, x.ends(0, 0));
        edges.due("none", -1, x.ends(0, 1));
        edges.due("one line is first", 1, x.ends(2, 0));
        edges.due("and last", 1, x.ends(2, 1));
        ChalkWall y = Check.withPort(EIGHT);
        Check.work(y, "again 20[write 0 0 1;];");
        edges.due("the first of twenty", 0, y.ends(1, 0));
        edges.due("the last of twenty", 19, y.ends(1, 1));
    }

    private static void loud() {
        ChalkWall x = written();
        Check.law(x, "512*512*512*8");
        edges.due("two of 2 to the 30th", Integer.MIN_VALUE, x.loud(0));
        Check.law(x, "512*512*512*16-1");
        edges.due("two of the most", -2, x.loud(1));
        Check.law(x, "512*512*512*16");
        edges.due("two of the least", 0, x.loud(1));
        Check.law(x, "0-5");
        edges.due("below 0", -10, x.loud(0));
        Check.work(x, "rain 2;");
        edges.due("none of his", 0, x.loud(0));
        edges.due("one of his", -5, x.loud(1));
        Check.work(x, "night;");
        edges.due("a white wall", 0, x.loud(1));
    }
}
