/** Promises 5 and 8 at their boundaries: WORK's text, its STEPS one by one, undoing. */
public final class WorkEdgesTest {
    private static final String PORT = "row 3;row 30;row 1;bid 2 3;bid 4 1;kin 2 3;"
            + "writer 1 20;writer 2 60;knows 0 0;knows 0 1;knows 1 1;";
    private static final String NIGHTS = "again 30[again 30[night;];];";
    // 181 STEPS begun, 180 of them nights.
    private static final String MANY = "again 30[" + Check.times("night;", 6) + "];";

    private static final Edges edges = new Edges();

    public static void main(String[] args) {
        texts();
        begun();
        refused();
        edges.edge(8, "The latest WORK that was done is undone", WorkEdgesTest::latestIsUndone);
        edges.edge(8, "how many are left", WorkEdgesTest::sixteenUndone);
        edges.edge(8, "-1: there is none.", WorkEdgesTest::noneToUndo);
        edges.end("WorkEdgesTest", 5, 8);
    }

    private static void texts() {
        edges.edge(5, "WORK is a text of up to 150 bytes: { STEP \";\" }", WorkEdgesTest::longestText);
        edges.edge(5, "Likewise WORK (n to 150), which is done", WorkEdgesTest::nBesideTheBounds);
        edges.edge(5, "how many STEPS were done (agains not counted, nor REFUSED ones)", WorkEdgesTest::doneAreCounted);
        edges.edge(5, "or the FAULT less 10 (none is)", WorkEdgesTest::noneIsDone);
        edges.edge(5, "-20 ahead of that (nothing is read, there is no FAULT, the TAPE is empty then)",
                WorkEdgesTest::fullIsAheadOfFaults);
        edges.edge(5, "16 WORKS are there that were not undone.", WorkEdgesTest::sixteenWorks);
        edges.edge(5, "STEP: \"write\" W K R", WorkEdgesTest::numbersOfWrite);
        edges.edge(5, "\"slip\" K", () -> number("slip ", 0, 1, ";"));
        edges.edge(5, "\"rain\" N (1 to 4)", () -> number("rain ", 1, 4, ";"));
        edges.edge(5, "\"again\" N \"[\" { STEP \";\" } \"]\" (N 0 to 30)", WorkEdgesTest::numbersOfAgain);
    }

    private static void begun() {
        edges.edge(5, "200 STEPS at most are begun by one WORK", WorkEdgesTest::twoHundred);
        edges.edge(5, "(an again, too, each time it is come to", WorkEdgesTest::againsAreBegun);
        edges.edge(5, "REFUSED ones, too)", WorkEdgesTest::refusedAreBegun);
        edges.edge(5, "what would come behind is left out", WorkEdgesTest::leftOut);
        edges.edge(5, "STEPS are done in order", WorkEdgesTest::inOrder);
    }

    private static void refused() {
        edges.edge(5, "one that can't be done is REFUSED, and changes nothing", WorkEdgesTest::changesNothing);
        edges.edge(5, "bidding the ACT as it is remembered now, as the last line of ROW R", WorkEdgesTest::asRemembered);
        edges.edge(5, "(REFUSED, if he does not remember it", WorkEdgesTest::notRemembered);
        edges.edge(5, "R is above his reach", WorkEdgesTest::aboveReach);
        edges.edge(5, "the ROW has no room for L letters more", WorkEdgesTest::noRoom);
        edges.edge(5, "he has not the chalk for them", WorkEdgesTest::noChalk);
        edges.edge(5, "or 20 lines stand)", WorkEdgesTest::twentyLines);
        edges.edge(5, "his chalk is less by L", WorkEdgesTest::chalkIsLess);
        edges.edge(5, "(REFUSED, if that has no kin)", WorkEdgesTest::noKin);
        edges.edge(5, "the N lowest ROWS are white again, their lines gone", WorkEdgesTest::lowestRows);
        edges.edge(5, "(REFUSED, if no line stands on them)", WorkEdgesTest::noLineOnThem);
        edges.edge(5, "night (REFUSED from 500 on)", WorkEdgesTest::lastNight);
        edges.edge(5, "all is white, all have their chalk again; the next DAY.", WorkEdgesTest::night);
    }

    private static void work(ChalkWall x, String text, int done, int refused) {
        edges.due("done by '" + text + "'", done, Check.work(x, text));
        edges.due("refused by '" + text + "'", refused, x.told(8));
    }

    private static void longestText() {
        work(new ChalkWall(), Check.times("night;", 25), 25, 0);
        work(new ChalkWall(), Check.times(" ", 144) + "night;", 1, 0);
        work(new ChalkWall(), Check.times(" ", 150), 0, 0);
        work(new ChalkWall(), "", 0, 0);
        work(Check.withPort(PORT), Check.times("slip1;", 25), 0, 25);
        work(Check.withPort(PORT), Check.times("rain4;", 25), 0, 25);
    }

    private static void nBesideTheBounds() {
        ChalkWall x = Check.withPort(PORT);
        Check.feed(x, Check.times("night;", 25) + "night;");
        edges.due("fed", 160, x.count(1));
        for (int n : new int[] {-1, 151, 156, 160, 161, Integer.MIN_VALUE, Integer.MAX_VALUE}) {
            edges.illegal(n + " of 160 bytes", () -> x.work(n));
        }
        edges.due("refused", 7, x.status(1));
        edges.due("the tape stays", 160, x.count(1));
        edges.due("none is done", 0, x.told(3));
        edges.due("no work is there", 0, x.count(2));
        edges.due("150 of them", 25, x.work(150));
        edges.due("empty then", 0, x.count(1));
        edges.illegal("one of none", () -> x.work(1));
        Check.feed(x, "night;night;night;xx");
        edges.illegal("21 of 20", () -> x.work(21));
        edges.due("the first ones alone", 2, x.work(12));
        edges.due("an empty text", 0, x.work(0));
        edges.due("is a work, too", 3, x.count(2));
    }

    private static void doneAreCounted() {
        work(Check.withPort(PORT), "again 3[slip 1;];", 0, 3);
        work(Check.withPort(PORT), "again 3[night;];", 3, 0);
        work(Check.withPort(PORT), "again 2[again 2[write 0 0 0;];];", 1, 3);
        work(Check.withPort(PORT), "slip 0;slip 0;rain 4;night;", 2, 2);
    }

    private static void noneIsDone() {
        String[] texts = {"slip 0;night;x", "slip 0;night;rain 5;",
            "slip 0;night;" + Check.times("again 1[", 7)};
        for (int i = 0; i < texts.length; i++) {
            ChalkWall x = Check.withPort(PORT);
            work(x, "write 0 0 0;write 1 1 1;rain 1;rain 1;", 3, 1);
            x.image();
            String before = Seen.all(x);
            edges.due("fault " + (i + 1), i + 1 - 10, Check.work(x, texts[i]));
            edges.stays("all stays", before, x);
            edges.due("the tape is empty", 0, x.count(1));
            edges.due("that work is undone", 0, x.undo());
        }
    }

    private static void sixteenWorks() {
        ChalkWall x = Check.withPort(PORT);
        for (int i = 1; i <= 16; i++) {
            edges.due("work " + i, 1, Check.work(x, "night;"));
            edges.due("works", i, x.count(2));
        }
        edges.due("a 17th", -20, Check.work(x, "night;"));
        edges.due("nothing is done", 16, x.told(3));
        edges.due("sixteen stay", 16, x.count(2));
        edges.due("one is undone", 15, x.undo());
        edges.due("there is room for one", 1, Check.work(x, "night;"));
        edges.due("for one alone", -20, Check.work(x, "night;"));
        edges.due("a port makes room", 2, Check.port(x, PORT));
        edges.due("a work", 1, Check.work(x, "night;"));
    }

    private static void fullIsAheadOfFaults() {
        ChalkWall x = Check.withPort(PORT);
        for (int i = 1; i <= 15; i++) {
            x.work(0);
        }
        work(x, "slip 1;slip 1;", 0, 2);
        Check.law(x, "5+");
        edges.due("a fault of the law", 2, x.fault());
        String before = Seen.all(x);
        edges.due("a text with a fault", -20, Check.work(x, "night;x"));
        edges.due("there is no fault", -1, x.fault());
        edges.due("the tape is empty", 0, x.count(1));
        edges.due("an empty text", -20, x.work(0));
        edges.stays("all stays", before, x);
        Check.feed(x, "night;");
        edges.illegal("too many bytes", () -> x.work(21));
        edges.illegal("too few bytes", () -> x.work(-1));
        edges.due("the tape stays then", 20, x.count(1));
        edges.due("none of twenty", -20, x.work(0));
        edges.due("the tape is empty", 0, x.count(1));
    }

    /** A number behind some words: least and most can stand, what is beside them has FAULT 2 there. */
    private static void number(String ahead, int least, int most, String behind) {
        ChalkWall x = Check.withPort(PORT);
        edges.due("the least", true, Check.work(x, ahead + least + behind) >= 0);
        edges.due("the most", true, Check.work(x, ahead + most + behind) >= 0);
        if (least > 0) {
            edges.due("one less", -8, Check.work(x, ahead + (least - 1) + behind));
            edges.due("its place", ahead.length(), x.fault());
        }
        for (long more : new long[] {most + 1L, 256L + least, 4294967296L + least}) {
            edges.due(more + " is too many", -8, Check.work(x, ahead + more + behind));
            edges.due("its place", ahead.length(), x.fault());
        }
        edges.due("two works alone", 2, x.count(2));
    }

    private static void numbersOfWrite() {
        number("write ", 0, 1, " 0 0;");
        number("write 0 ", 0, 1, " 0;");
        number("write 0 0 ", 0, 2, ";");
        ChalkWall x = new ChalkWall();
        edges.due("none told", -8, Check.work(x, "write 0 0 0;"));
        edges.due("none told", 6, x.fault());
        edges.due("none told", -8, Check.work(x, "slip 0;"));
        edges.due("none told", 5, x.fault());
        Check.port(x, "writer 0 1;");
        edges.due("a writer", -8, Check.work(x, "write 0 0 0;"));
        edges.due("a writer", 8, x.fault());
        Check.port(x, "writer 0 1;bid 0 1;");
        edges.due("a writer and a bid", -8, Check.work(x, "write 0 0 0;"));
        edges.due("a writer and a bid", 10, x.fault());
    }

    private static void numbersOfAgain() {
        number("again ", 0, 30, "[];");
        work(new ChalkWall(), "again 0[night;];", 0, 0);
        work(new ChalkWall(), "again 1[night;];", 1, 0);
        work(new ChalkWall(), "again 30[night;];", 30, 0);
        work(new ChalkWall(), "again 30[];night;", 1, 0);
        work(new ChalkWall(), "again 0[again 30[night;];night;];night;", 1, 0);
    }

    private static void twoHundred() {
        work(new ChalkWall(), MANY + "again 17[night;];", 197, 0);
        work(new ChalkWall(), MANY + "again 18[night;];", 198, 0);
        work(new ChalkWall(), MANY + "again 19[night;];", 198, 0);
        work(new ChalkWall(), MANY + "again 17[night;];night;", 198, 0);
        work(new ChalkWall(), MANY + "again 17[night;];night;night;", 198, 0);
        ChalkWall x = new ChalkWall();
        work(x, MANY + "again 30[night;];", 198, 0);
        work(x, MANY + "again 30[night;];", 198, 0);
        edges.due("each work has its own", 396, x.told(3));
    }

    private static void againsAreBegun() {
        work(new ChalkWall(), MANY + "again 17[again 0[];];night;night;", 181, 0);
        work(new ChalkWall(), MANY + "again 18[again 0[];];night;", 180, 0);
        // One, then six times 31, then an again and 12 nights.
        work(new ChalkWall(), NIGHTS, 192, 0);
        work(new ChalkWall(), "again 30[again 30[again 30[again 30[again 30[again 30[];];];];];];night;", 0, 0);
        // Five, then six times 31, then an again and 8 nights.
        work(new ChalkWall(), Check.times("again 30[", 6) + "night;" + Check.times("];", 6), 188, 0);
    }

    private static void refusedAreBegun() {
        String many = "again 30[" + Check.times("rain 1;", 6) + "];";
        work(new ChalkWall(), many + "again 18[night;];night;", 18, 180);
        work(new ChalkWall(), many + "again 17[night;];rain 1;night;", 17, 181);
        work(new ChalkWall(), "again 30[again 30[rain 4;];];night;", 0, 192);
    }

    private static void leftOut() {
        ChalkWall x = Check.withPort(PORT);
        work(x, MANY + "again 18[night;];slip 1;slip 0;write 0 0 0;", 198, 0);
        edges.due("no slip", 2, x.bid(0, 0));
        edges.due("no line", 0, x.told(4));
        edges.due("a fault behind is one", -9, Check.work(x, MANY + "again 18[night;];x"));
        edges.due("a fault behind is one", 64, x.fault());
    }

    private static void inOrder() {
        ChalkWall x = Check.withPort(PORT);
        work(x, "again 2[write 0 0 1;slip 0;];", 3, 1);
        edges.due("ahead of the slip", 2, x.line(0, 1));
        edges.due("behind it", 3, x.line(1, 1));
        work(x, "rain 2;write 0 0 0;rain 1;", 3, 0);
        edges.due("white", 0, x.told(4));
    }

    private static void changesNothing() {
        ChalkWall[] walls = new ChalkWall[6];
        for (int i = 0; i < walls.length; i++) {
            walls[i] = Check.withPort(PORT);
            Check.work(walls[i], "write 0 0 0;slip 0;again 5[write 0 0 1;];");
        }
        String[] steps = {"write 1 0 1;", "write 1 1 0;", "write 0 1 2;", "write 0 0 1;", "slip 0;", "slip 1;"};
        for (int i = 0; i < steps.length; i++) {
            String before = Seen.wall(walls[i]);
            work(walls[i], steps[i], 0, 1);
            edges.same("nothing by " + steps[i], before, Seen.wall(walls[i]));
        }
        ChalkWall x = Check.withPort(PORT);
        Check.work(x, "write 0 0 1;");
        String before = Seen.wall(x);
        work(x, "rain 1;", 0, 1);
        edges.same("nothing by rain 1", before, Seen.wall(x));
    }

    private static void asRemembered() {
        ChalkWall x = Check.withPort(PORT);
        work(x, "write 0 0 1;write 0 0 0;slip 0;write 0 0 1;", 4, 0);
        edges.due("as told", 2, x.line(0, 1));
        edges.due("as it slipped", 3, x.line(2, 1));
        edges.due("the last of its row", 2, x.ends(1, 1));
        edges.due("a line stays as it was written", 2, x.line(1, 1));
    }

    private static void notRemembered() {
        ChalkWall x = Check.withPort(PORT);
        work(x, "write 1 0 1;", 0, 1);
        work(x, "write 1 1 1;", 1, 0);
        work(x, "write 0 0 1;", 1, 0);
    }

    private static void aboveReach() {
        ChalkWall x = Check.withPort("row 9;row 9;row 9;row 9;bid 0 1;writer 0 60;writer 1 60;writer 2 60;writer 3 60;"
                + "knows 0 0;knows 1 0;knows 2 0;knows 3 0;");
        for (int writer = 0; writer < 4; writer++) {
            work(x, "write " + writer + " 0 " + writer + ";", 1, 0);
            if (writer < 3) {
                work(x, "write " + writer + " 0 " + (writer + 1) + ";", 0, 1);
            }
        }
    }

    private static void noRoom() {
        ChalkWall x = Check.withPort(PORT);
        work(x, "write 0 0 0;", 1, 0);
        edges.due("room to the last letter", 0, x.row(0, 1));
        work(x, "write 0 1 0;", 0, 1);
        work(x, "rain 1;write 1 1 0;", 2, 0);
        work(x, "write 0 0 0;", 0, 1);
        edges.due("two letters of room", 2, x.row(0, 1));
        work(x, "write 1 1 0;write 1 1 0;write 1 1 0;", 2, 1);
        work(x, "write 1 0 2;write 1 1 2;write 1 1 2;", 1, 2);
    }

    private static void noChalk() {
        ChalkWall x = Check.withPort("row 30;bid 0 3;bid 0 1;writer 0 4;knows 0 0;knows 0 1;");
        work(x, "write 0 0 0;write 0 0 0;", 1, 1);
        edges.due("one letter of chalk", 1, x.writer(0, 2));
        work(x, "write 0 1 0;write 0 1 0;", 1, 1);
        edges.due("no chalk", 0, x.writer(0, 2));
        work(x, "rain 1;write 0 1 0;", 1, 1);
        work(x, "night;write 0 1 0;", 2, 0);
    }

    private static void twentyLines() {
        ChalkWall x = Check.withPort("row 30;row 30;bid 0 1;writer 1 60;knows 0 0;");
        work(x, "write 0 0 1;again 18[write 0 0 0;];", 19, 0);
        work(x, "write 0 0 0;", 1, 0);
        edges.due("twenty", 20, x.told(4));
        edges.due("room is there", 29, x.row(1, 1));
        edges.due("chalk is there", 40, x.writer(0, 2));
        work(x, "write 0 0 1;", 0, 1);
        work(x, "write 0 0 0;", 0, 1);
        edges.due("twenty stay", 20, x.told(4));
        work(x, "rain 1;write 0 0 1;", 2, 0);
        edges.due("two of them", 2, x.told(4));
    }

    private static void chalkIsLess() {
        ChalkWall x = Check.withPort("row 30;row 30;bid 0 15;writer 1 60;writer 1 60;knows 0 0;knows 1 0;");
        int[] left = {45, 30, 15, 0};
        for (int i = 0; i < 4; i++) {
            work(x, "write 0 0 " + i / 2 + ";", 1, 0);
            edges.due("chalk", left[i], x.writer(0, 2));
        }
        edges.due("the other one's stays", 60, x.writer(1, 2));
        work(x, "rain 2;", 1, 0);
        edges.due("rain brings none back", 0, x.writer(0, 2));
    }

    private static void noKin() {
        ChalkWall x = Check.withPort("bid 0 1;bid 9 1;bid 5 1;kin 0 9;kin 5 6;kin 6 5;");
        work(x, "slip 0;", 1, 0);
        work(x, "slip 0;", 0, 1);
        work(x, "slip 1;", 0, 1);
        edges.due("how often", 1, x.bid(0, 3));
        edges.due("never", 0, x.bid(1, 3));
        work(x, "again 30[slip 2;];", 30, 0);
        edges.due("to and fro", 5, x.bid(2, 0));
        edges.due("how often", 30, x.bid(2, 3));
        ChalkWall y = Check.withPort("bid 0 1;");
        work(y, "slip 0;", 0, 1);
    }

    private static void lowestRows() {
        for (int n = 1; n <= 4; n++) {
            ChalkWall x = Check.withPort("row 9;row 9;row 9;row 9;bid 0 1;writer 3 60;knows 0 0;");
            Check.work(x, "write 0 0 3;write 0 0 0;write 0 0 2;write 0 0 1;write 0 0 0;");
            int[] lines = {2, 1, 1, 1};
            int left = 5;
            work(x, "rain " + n + ";", 1, 0);
            for (int row = 0; row < 4; row++) {
                left -= row < n ? lines[row] : 0;
                edges.due("lines on " + row, row < n ? 0 : lines[row], x.row(row, 2));
                edges.due("room on " + row, row < n ? 9 : 9 - lines[row], x.row(row, 1));
            }
            edges.due("lines behind rain " + n, left, x.told(4));
            edges.due("written by now", 5, x.told(9));
        }
    }

    private static void noLineOnThem() {
        ChalkWall x = Check.withPort("row 9;row 9;row 9;row 9;bid 0 1;writer 3 60;knows 0 0;");
        work(x, "rain 1;rain 2;rain 3;rain 4;", 0, 4);
        work(x, "write 0 0 3;rain 1;rain 2;rain 3;", 1, 3);
        work(x, "rain 4;rain 4;", 1, 1);
        work(x, "write 0 0 1;rain 1;rain 2;", 2, 1);
        ChalkWall y = Check.withPort("row 9;bid 0 1;writer 3 60;knows 0 0;");
        work(y, "write 0 0 0;rain 4;", 2, 0);
        work(new ChalkWall(), "rain 4;", 0, 1);
    }

    private static void lastNight() {
        ChalkWall x = Check.withPort(PORT);
        Check.work(x, NIGHTS);
        Check.work(x, NIGHTS);
        work(x, "again 30[night;night;night;];again 25[night;];", 115, 0);
        edges.due("day", 499, x.told(3));
        work(x, "write 0 0 0;night;", 2, 0);
        edges.due("the last day", 500, x.told(3));
        edges.due("white", 0, x.told(4));
        work(x, "write 0 0 0;", 1, 0);
        String before = Seen.wall(x);
        work(x, "night;", 0, 1);
        edges.same("nothing is changed", before, Seen.wall(x));
        edges.due("the line stands", 1, x.told(4));
        edges.due("the chalk is gone", 17, x.writer(0, 2));
        work(x, "rain 1;write 1 1 2;slip 0;", 3, 0);
    }

    private static void night() {
        ChalkWall x = Check.withPort(PORT);
        work(x, "write 0 0 0;write 1 1 2;write 0 1 1;slip 0;night;", 5, 0);
        edges.due("day", 1, x.told(3));
        for (int row = 0; row < 3; row++) {
            edges.due("no line on " + row, 0, x.row(row, 2));
        }
        edges.due("chalk", 20, x.writer(0, 2));
        edges.due("chalk", 60, x.writer(1, 2));
        edges.due("slips stay", 3, x.bid(0, 0));
        work(x, "night;", 1, 0);
        edges.due("a white wall has nights, too", 2, x.told(3));
    }

    private static void latestIsUndone() {
        ChalkWall x = Check.withPort(PORT);
        String[] works = {"write 0 0 0;slip 0;", "night;write 1 1 2;", "slip 1;", "rain 4;write 0 0 1;write 0 0 1;"};
        String[] seen = new String[works.length];
        for (int i = 0; i < works.length; i++) {
            seen[i] = Seen.wall(x);
            edges.due("work " + i, true, Check.work(x, works[i]) >= 0);
        }
        edges.due("a fault is no work", -9, Check.work(x, "night;x"));
        for (int i = works.length - 1; i >= 0; i--) {
            edges.due("left", i, x.undo());
            edges.same("as ahead of " + works[i], seen[i], Seen.wall(x));
        }
    }

    private static void sixteenUndone() {
        ChalkWall x = new ChalkWall();
        for (int i = 0; i < 16; i++) {
            x.work(0);
        }
        for (int left = 15; left >= 0; left--) {
            edges.due("left", left, x.undo());
            edges.due("can be undone", left, x.count(2));
        }
        edges.due("no more", -1, x.undo());
        edges.due("none", 0, x.count(2));
    }

    private static void noneToUndo() {
        ChalkWall x = new ChalkWall();
        edges.due("a new one", -1, x.undo());
        Check.port(x, PORT);
        edges.due("a port", -1, x.undo());
        Check.law(x, "7");
        Check.deeds(x, "1 1;");
        x.image();
        String before = Seen.all(x);
        edges.due("a law, deeds, an image are no work", -1, x.undo());
        edges.stays("nothing is changed", before, x);
        Check.work(x, "night;");
        edges.due("a work", 0, x.undo());
        edges.due("no more", -1, x.undo());
    }
}
