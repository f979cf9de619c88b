/** Promises 1 to 3 at their boundaries: a new object, the TAPE, the PORT and its CLAUSES. */
public final class PortEdgesTest {
    private static final String SMALL = "row 10;row 6;bid 0 4;bid 3 5;kin 0 1;kin 3 4;"
            + "writer 1 9;writer 0 20;knows 0 0;knows 0 1;knows 1 1;";
    // 60 CLAUSES, of each kind as many as there may be, in 592 bytes.
    private static final String FULL = Check.times("row 30;", 4) + Check.times("bid 9 15;", 8)
            + Check.times("writer 3 60;", 6) + Check.times("knows 5 7;", 42);

    private static final Edges edges = new Edges();

    public static void main(String[] args) {
        edges.edge(1, "A PORT without CLAUSES.", PortEdgesTest::newHasNothing);
        edges.edge(1, "An object is used for at most 512 calls after it has been made",
                PortEdgesTest::lastCallOfAll);
        edges.edge(2, "Twenty bytes come on the TAPE, of each number the highest first",
                PortEdgesTest::eachByteStandsAtItsPlace);
        edges.edge(2, "how many there are", PortEdgesTest::tapeGrowsByTwenty);
        edges.edge(2, "NONE, doing nothing, if there would be more than 600.", PortEdgesTest::tapeIsFull);
        port();
        clauses();
        signs();
        edges.end("PortEdgesTest", 1, 2, 3);
    }

    private static void port() {
        edges.edge(3, "The first n bytes of the TAPE (empty then) are the PORT", PortEdgesTest::firstBytesAlone);
        edges.edge(3, "(DAY 0; no LAW, DEEDS, IMAGES, nothing to undo)", PortEdgesTest::allIsNew);
        edges.edge(3, "(empty then) are the PORT", PortEdgesTest::nothingOfLargerOnes);
        edges.edge(3, "how many BIDS", PortEdgesTest::fromNoBidToEight);
        edges.edge(3, "or the FAULT less 10 (all stays)", PortEdgesTest::allStaysBehindFault);
        edges.edge(3, "IllegalArgumentException: n is not 0 to the TAPE's bytes (it stays).",
                PortEdgesTest::nBesideTheTape);
        edges.edge(3, "A PORT is a text of up to 600 bytes", PortEdgesTest::longestText);
        edges.edge(3, "It is DAY 0 at first, the wall is white, BIDS are remembered as told.",
                PortEdgesTest::wallIsWhite);
    }

    private static void clauses() {
        edges.edge(3, "{ CLAUSE \";\" }, at most 60", PortEdgesTest::sixtyClauses);
        edges.edge(3, "(ROWS, numbered from 0, the lowest, on, 4 at most", PortEdgesTest::fourRows);
        edges.edge(3, "(BIDS, what the constitution has, likewise, 8", PortEdgesTest::eightBids);
        edges.edge(3, "(WRITERS likewise, 6", PortEdgesTest::sixWriters);
        edges.edge(3, "N letters wide, 1 to 30", () -> number("row ", 1, 30, ";"));
        edges.edge(3, "ACT A, 0 to 9", () -> number("bid ", 0, 9, " 1;"));
        edges.edge(3, "L letters, 1 to 15", () -> number("bid 0 ", 1, 15, ";"));
        edges.edge(3, "(ACT A slips to ACT B, not A", PortEdgesTest::kinOfAnother);
        edges.edge(3, "of one A the last counts", PortEdgesTest::lastKinCounts);
        edges.edge(3, "reaches ROWS 0 to R, 0 to 3", () -> number("writer ", 0, 3, " 1;"));
        edges.edge(3, "has chalk for C letters a day, 1 to 60", () -> number("writer 0 ", 1, 60, ";"));
        edges.edge(3, "(WRITER W, BID K, both told ahead: he remembers it)", PortEdgesTest::knownIsToldAhead);
    }

    private static void signs() {
        edges.edge(3, "Numbers: digits, as many as stand there", PortEdgesTest::numbersAreWhole);
        edges.edge(3, "WORDS: small letters, as many as stand there", PortEdgesTest::wordsAreWhole);
        edges.edge(3, "blanks (32) may stand ahead of all these, and at the end", PortEdgesTest::blanks);
    }

    private static void newHasNothing() {
        ChalkWall x = new ChalkWall();
        for (int what = 0; what <= 9; what++) {
            edges.due("told(" + what + ")", 0, x.told(what));
        }
        edges.onlyTheFirst(x, 0, v -> x.row(v, 0));
        edges.onlyTheFirst(x, 0, v -> x.bid(v, 0));
        edges.onlyTheFirst(x, 0, v -> x.writer(v, 0));
        edges.onlyTheFirst(x, 0, v -> x.line(v, 0));
        for (int act = 0; act <= 9; act++) {
            edges.due("kin(" + act + ")", -1, x.kin(act));
        }
        for (int what = 0; what <= 2; what++) {
            edges.due("count(" + what + ")", 0, x.count(what));
        }
        edges.due("fault", -1, x.fault());
        edges.due("undo", -1, x.undo());
        edges.due("restore", -1, x.restore());
        edges.due("missing", 0, x.missing());
        edges.due("idle", 0, x.idle());
        edges.due("torn", 0, x.torn());
        edges.due("an empty set stood", 1, x.stood(0));
        ChalkWall y = new ChalkWall();
        edges.due("refused as no such", 0, y.status(0));
        edges.due("refused as wrong", 0, y.status(1));
    }

    private static void lastCallOfAll() {
        ChalkWall x = new ChalkWall();
        edges.due("calls 1 and 2", 0, Check.port(x, "row 5;"));
        for (int call = 3; call <= 510; call++) {
            edges.illegal("call " + call, () -> x.told(10));
        }
        edges.due("call 511", 508, x.status(1));
        edges.due("call 512", 5, x.row(0, 0));
    }

    private static void eachByteStandsAtItsPlace() {
        for (int sign : new int[] {0, 31, 33, 127, 128, 255}) {
            ChalkWall x = new ChalkWall();
            for (int place = 0; place < 20; place++) {
                int[] v = {0x20202020, 0x20202020, 0x20202020, 0x20202020, 0x20202020};
                int shift = 24 - 8 * (place % 4);
                v[place / 4] = v[place / 4] & ~(255 << shift) | sign << shift;
                edges.due("bytes", 20, x.feed(v[0], v[1], v[2], v[3], v[4]));
                edges.due("byte " + sign + " can't stand", -9, x.port(20));
                edges.due("byte " + sign + "'s place", place, x.fault());
            }
        }
    }

    private static void tapeGrowsByTwenty() {
        ChalkWall x = new ChalkWall();
        for (int i = 1; i <= 30; i++) {
            edges.due("feed " + i, 20 * i, x.feed(i, -i, i << 8, Integer.MIN_VALUE, Integer.MAX_VALUE));
            edges.due("bytes", 20 * i, x.count(1));
        }
    }

    private static void tapeIsFull() {
        ChalkWall x = new ChalkWall();
        edges.due("600 are fed", 600, Check.feed(x, Check.times(" ", 591) + "bid 9 15;"));
        edges.due("600 are there", 600, x.count(1));
        edges.due("one feed more", -1, x.feed(0x78787878, 0x78787878, 0x78787878, 0x78787878, 0x78787878));
        edges.due("and again", -1, x.feed(0, 0, 0, 0, 0));
        edges.due("600 stay", 600, x.count(1));
        edges.due("they stay what they were", 1, x.port(600));
        edges.due("to the last", 15, x.bid(0, 1));
        edges.due("there is room again", 20, x.feed(0, 0, 0, 0, 0));
    }

    private static void firstBytesAlone() {
        ChalkWall x = new ChalkWall();
        Check.feed(x, "row 1;bid 2 3;xxxxxx");
        edges.due("six of twenty", 0, x.port(6));
        edges.due("a row", 1, x.told(0));
        edges.due("no bid", 0, x.told(1));
        edges.due("the rest is gone, too", 0, x.count(1));
        Check.feed(x, "xxxxxxxxxxxxxxxxxxxx");
        edges.due("none of twenty", 0, x.port(0));
        edges.due("no row", 0, x.told(0));
        edges.due("empty", 0, x.count(1));
        Check.feed(x, "xxxxxxxxxxxxxxxxxxxx");
        edges.due("with a fault", -9, x.port(20));
        edges.due("empty behind a fault, too", 0, x.count(1));
        edges.due("an empty tape", 0, x.port(0));
    }

    private static void allIsNew() {
        ChalkWall x = Check.withPort(SMALL);
        Check.law(x, "7");
        Check.deeds(x, "1 1;");
        Check.work(x, "write 0 0 0;slip 0;night;write 1 1 0;slip 0;");
        edges.due("an image", 1, x.image());
        edges.due("the same again", 2, Check.port(x, SMALL));
        for (int what = 3; what <= 9; what++) {
            edges.due("told(" + what + ")", 0, x.told(what));
        }
        edges.due("no law", 21, x.would(2, 1, 0, 0, 0, 0, 0, 0));
        edges.due("no image", 0, x.count(0));
        edges.due("nothing to restore", -1, x.restore());
        edges.due("nothing to undo", 0, x.count(2));
        edges.due("nothing to undo", -1, x.undo());
        edges.stays("as a new one's", Seen.all(Check.withPort(SMALL)), x);
    }

    /** Answers to what goes over all ROWS, BIDS and WRITERS. */
    private static String overAll(ChalkWall x) {
        StringBuilder seen = new StringBuilder(Seen.all(x));
        int bids = (1 << x.told(1)) - 1;
        int writers = (1 << x.told(2)) - 1;
        for (int what = 0; what <= 2; what++) {
            seen.append(' ').append(x.crews(1, 1, what)).append(' ').append(x.stood(what));
        }
        for (int what = 0; what <= 3; what++) {
            seen.append(' ').append(x.years(77, 12, 9, 9, what)).append(' ').append(x.above(what));
        }
        for (int writer = 0; writer < x.told(2); writer++) {
            seen.append(' ').append(x.share(writer, writers, 13)).append(' ').append(x.loud(writer));
        }
        for (int bid = 0; bid < x.told(1); bid++) {
            seen.append(' ').append(x.fitted(bids, bid)).append(' ').append(x.still(bid, 3, 3, 1, 0));
        }
        seen.append(' ').append(x.send(bids)).append(' ').append(x.lost(bids)).append(' ').append(x.fits(bids));
        seen.append(' ').append(x.idle()).append(' ').append(x.missing()).append(' ').append(x.torn());
        return seen.toString();
    }

    /** As many ROWS, BIDS and WRITERS as can be; each WRITER remembers six BIDS. */
    private static String large() {
        StringBuilder text = new StringBuilder(Check.times("row 30;", 4) + Check.times("bid 9 15;", 8)
                + "kin 9 1;kin 1 9;" + Check.times("writer 3 60;", 6));
        for (int i = 0; i < 36; i++) {
            text.append("knows ").append(i / 6).append(' ').append(i % 6).append(';');
        }
        return text.toString();
    }

    private static void nothingOfLargerOnes() {
        String[] small = {"", "row 1;", "bid 0 2;", "writer 3 9;", "row 1;bid 0 2;writer 3 9;knows 0 0;",
            "row 9;row 1;bid 0 2;writer 3 9;", "row 1;bid 0 2;bid 1 3;writer 3 9;writer 0 60;knows 0 0;knows 1 1;", SMALL};
        for (String text : small) {
            ChalkWall x = new ChalkWall();
            // Two of them, since an object may keep one port while it reads the next one.
            for (int i = 0; i < 2; i++) {
                edges.due("a large one", 8, Check.port(x, large()));
                Check.law(x, "old*7+9");
                Check.deeds(x, "9 1;1 0;");
                edges.due("its work", 20, Check.work(x, "again 8[write 5 5 3;write 0 0 0;slip 7;slip 0;];"));
            }
            Check.port(x, text);
            edges.same("behind larger ones: " + text, overAll(Check.withPort(text)), overAll(x));
        }
        ChalkWall y = Check.withPort(FULL);
        edges.due("all writers but one are idle", 31, y.idle());
        ChalkWall z = Check.withPort(FULL.replace("knows 5 7;", ""));
        edges.due("all writers are idle", 63, z.idle());
    }

    private static void fromNoBidToEight() {
        ChalkWall x = new ChalkWall();
        for (int bids = 0; bids <= 8; bids++) {
            edges.due(bids + " bids", bids, Check.port(x, Check.times("bid 0 1;", bids)));
            edges.due(bids + " bids told", bids, x.told(1));
        }
    }

    private static void allStaysBehindFault() {
        String[] texts = {"row 1;x", "row 31;", "row 1;row 1;row 1;row 1;row 1;"};
        for (int i = 0; i < texts.length; i++) {
            ChalkWall x = Check.withPort(SMALL);
            Check.law(x, "old*3+act");
            Check.deeds(x, "1 1;2 0;");
            Check.work(x, "write 0 0 0;slip 0;night;write 1 1 0;slip 0;");
            x.image();
            String before = Seen.all(x);
            edges.due("fault " + (i + 1), i + 1 - 10, Check.port(x, texts[i]));
            edges.stays("all stays", before, x);
            edges.due("what can be undone stays", 0, x.undo());
            edges.due("the image stays", 0, x.restore());
        }
    }

    private static void nBesideTheTape() {
        ChalkWall x = Check.withPort(SMALL);
        String before = Seen.wall(x);
        Check.feed(x, "row 8;bid 7 6;row 4;");
        for (int n : new int[] {-1, 21, 600, Integer.MIN_VALUE, Integer.MAX_VALUE}) {
            edges.illegal(n + " of 20 bytes", () -> x.port(n));
        }
        edges.due("the tape stays", 20, x.count(1));
        edges.same("the port stays", before, Seen.wall(x));
        edges.due("the bytes stay", 1, x.port(20));
        edges.due("the bytes stay", 2, x.told(0));
        edges.within(x, 0, 0, x::port);
    }

    private static void longestText() {
        ChalkWall x = new ChalkWall();
        edges.due("600 bytes", 600, Check.feed(x, Check.times(" ", 8) + FULL));
        edges.due("all of each", 8, x.port(600));
        edges.due("rows", 4, x.told(0));
        edges.due("writers", 6, x.told(2));
        edges.due("the last clause counts", 128, x.writer(5, 3));
        Check.feed(x, Check.times(" ", 8) + FULL);
        edges.due("one byte less", -9, x.port(599));
        edges.due("ends too early", 599, x.fault());
        edges.due("blanks alone", 0, Check.port(x, Check.times(" ", 600)));
        edges.due("no row", 0, x.told(0));
    }

    private static void wallIsWhite() {
        ChalkWall x = Check.withPort(FULL);
        edges.due("day", 0, x.told(3));
        edges.due("lines", 0, x.told(4));
        for (int row = 0; row < 4; row++) {
            edges.due("room", 30, x.row(row, 1));
        }
        for (int bid = 0; bid < 8; bid++) {
            edges.due("remembered", 9, x.bid(bid, 0));
            edges.due("slips", 0, x.bid(bid, 3));
        }
        for (int writer = 0; writer < 6; writer++) {
            edges.due("chalk", 60, x.writer(writer, 2));
        }
    }

    /** So many of a CLAUSE can stand; one more has FAULT 3 at its word, with blanks ahead of it, too. */
    private static ChalkWall most(String clause, int many) {
        ChalkWall x = new ChalkWall();
        String text = Check.times(clause, many);
        edges.due("one more", -7, Check.port(x, text + clause));
        edges.due("at its word", text.length(), x.fault());
        edges.due("one more behind blanks", -7, Check.port(x, text + "   " + clause));
        edges.due("at its word", text.length() + 3, x.fault());
        edges.due("one more, which ends too early", -7, Check.port(x, text + clause.substring(0, clause.indexOf(' '))));
        edges.due("at its word", text.length(), x.fault());
        edges.due("as many as can stand", true, Check.port(x, text) >= 0);
        edges.due("no fault", -1, x.fault());
        return x;
    }

    private static void sixtyClauses() {
        most("kin 1 2;", 60);
        ChalkWall x = new ChalkWall();
        edges.due("59 and a row", 0, Check.port(x, Check.times("kin 1 2;", 59) + "row 7;"));
        edges.due("the 60th counts", 7, x.row(0, 0));
        edges.due("60 and a row", -7, Check.port(x, Check.times("kin 1 2;", 60) + "row 7;"));
        edges.due("at its word", 480, x.fault());
        edges.due("60 and blanks", 0, Check.port(x, Check.times("kin 1 2;", 60) + "     "));
        edges.due("no row", 0, x.told(0));
    }

    private static void fourRows() {
        edges.due("four", 4, most("row 30;", 4).told(0));
        ChalkWall x = Check.withPort("row 1;row 2;row 3;row 30;");
        int[] letters = {1, 2, 3, 30};
        for (int row = 0; row < 4; row++) {
            edges.due("row " + row, letters[row], x.row(row, 0));
        }
        edges.onlyTheFirst(x, 4, v -> x.row(v, 0));
    }

    private static void eightBids() {
        edges.due("eight", 8, most("bid 9 15;", 8).told(1));
        StringBuilder text = new StringBuilder();
        for (int bid = 0; bid < 8; bid++) {
            text.append("bid ").append(bid + 1).append(' ').append(bid + 8).append(';');
        }
        ChalkWall x = Check.withPort(text.toString());
        for (int bid = 0; bid < 8; bid++) {
            edges.due("act of " + bid, bid + 1, x.bid(bid, 2));
            edges.due("letters of " + bid, bid + 8, x.bid(bid, 1));
        }
        edges.onlyTheFirst(x, 8, v -> x.bid(v, 0));
    }

    private static void sixWriters() {
        edges.due("six", 6, most("writer 3 60;", 6).told(2));
        ChalkWall x = Check.withPort("writer 0 1;writer 1 60;writer 2 2;writer 3 59;writer 0 30;writer 3 31;");
        int[] reach = {0, 1, 2, 3, 0, 3};
        int[] chalk = {1, 60, 2, 59, 30, 31};
        for (int writer = 0; writer < 6; writer++) {
            edges.due("reach of " + writer, reach[writer], x.writer(writer, 0));
            edges.due("chalk of " + writer, chalk[writer], x.writer(writer, 1));
        }
        edges.onlyTheFirst(x, 6, v -> x.writer(v, 0));
    }

    /** A number behind some words: least and most can stand, what is beside them has FAULT 2 there. */
    private static void number(String ahead, int least, int most, String behind) {
        ChalkWall x = new ChalkWall();
        edges.due("the least", true, Check.port(x, ahead + least + behind) >= 0);
        edges.due("no fault", -1, x.fault());
        edges.due("the most", true, Check.port(x, ahead + most + behind) >= 0);
        edges.due("no fault", -1, x.fault());
        if (least > 0) {
            edges.due("one less", -8, Check.port(x, ahead + (least - 1) + behind));
            edges.due("its place", ahead.length(), x.fault());
        } else {
            edges.due("a sign can't stand there", -9, Check.port(x, ahead + "-1" + behind));
            edges.due("its place", ahead.length(), x.fault());
        }
        for (long more : new long[] {most + 1L, 256L + least, 65536L + least, 4294967296L + least}) {
            edges.due(more + " is too many", -8, Check.port(x, ahead + more + behind));
            edges.due("its place", ahead.length(), x.fault());
        }
    }

    private static void kinOfAnother() {
        number("kin ", 0, 9, " 7;");
        number("kin 1 ", 2, 9, ";");
        ChalkWall x = new ChalkWall();
        for (int act = 0; act <= 9; act++) {
            edges.due("itself", -8, Check.port(x, "kin " + act + " 00" + act + ";"));
            edges.due("at B", 6, x.fault());
            int other = (act + 1) % 10;
            edges.due("another", 0, Check.port(x, "kin " + act + " " + other + ";"));
            edges.due("slips to it", other, x.kin(act));
        }
    }

    private static void lastKinCounts() {
        ChalkWall x = Check.withPort("kin 4 5;kin 4 6;kin 5 6;kin 4 0;");
        edges.due("the last of three", 0, x.kin(4));
        edges.due("of one A", 6, x.kin(5));
        edges.due("none", -1, x.kin(6));
        Check.port(x, "kin 0 1;kin 1 0;");
        edges.due("to and fro", 1, x.kin(0));
        edges.due("to and fro", 0, x.kin(1));
        edges.due("an earlier port's is gone", -1, x.kin(4));
    }

    private static void knows(String text, int kind, int place) {
        ChalkWall x = new ChalkWall();
        edges.due(text, kind - 10, Check.port(x, text));
        edges.due("place in " + text, place, x.fault());
    }

    private static void knownIsToldAhead() {
        knows("knows 0 0;", 2, 6);
        knows("writer 0 1;knows 0 0;", 2, 19);
        knows("bid 0 1;knows 0 0;", 2, 14);
        knows("bid 0 1;knows 0 0;writer 0 1;", 2, 14);
        knows("writer 0 1;knows 0 0;bid 0 1;", 2, 19);
        knows("bid 0 1;writer 0 1;knows 1 0;", 2, 25);
        knows("bid 0 1;writer 0 1;knows 0 1;", 2, 27);
        ChalkWall x = Check.withPort("writer 0 1;bid 0 1;knows 0 0;knows 0 0;writer 0 1;bid 0 1;knows 1 1;");
        edges.due("told twice, once known", 1, x.writer(0, 3));
        edges.due("the last of the last", 2, x.writer(1, 3));
        Check.port(x, "writer 0 1;bid 0 1;");
        edges.due("an earlier port's is gone", 0, x.writer(0, 3));
        Check.port(x, "writer 0 1;bid 0 1;");
        edges.due("a still earlier port's is gone", 0, x.writer(0, 3));
        edges.due("a fault behind it", -9, Check.port(x, "writer 0 1;bid 0 1;knows 0 0;x"));
        Check.port(x, "writer 0 1;bid 0 1;");
        edges.due("what a text with a fault told is gone", 0, x.writer(0, 3));
    }

    private static void numbersAreWhole() {
        ChalkWall x = new ChalkWall();
        edges.due("noughts ahead", 1, Check.port(x, "row " + Check.times("0", 500) + "30;bid 009 00000000000015;"));
        edges.due("noughts ahead", 30, x.row(0, 0));
        edges.due("noughts ahead", 15, x.bid(0, 1));
        edges.due("not cut in two", -8, Check.port(x, "bid 91;"));
        edges.due("not cut in two", 4, x.fault());
        edges.due("as long as the tape", -8, Check.port(x, "row " + Check.times("1", 595) + ";"));
        edges.due("as long as the tape", 4, x.fault());
        for (String wrapped : new String[] {"2147483649", "4294967297", "18446744073709551617"}) {
            edges.due("no wrap-around of " + wrapped, -8, Check.port(x, "row " + wrapped + ";"));
            edges.due("no wrap-around of " + wrapped, 4, x.fault());
        }
        edges.due("signs beside the digits", -9, Check.port(x, "row /;"));
        edges.due("signs beside the digits", 4, x.fault());
        edges.due("signs beside the digits", -9, Check.port(x, "row 1:;"));
        edges.due("signs beside the digits", 5, x.fault());
    }

    private static void wordsAreWhole() {
        ChalkWall x = new ChalkWall();
        String[] none = {"ro 1;", "rows 1;", "rowrow 1;", "Row 1;", "rOw 1;", "r ow 1;", "bids 0 1;", "write 0 1;",
            "writers 0 1;", "know 0 0;", "kins 1 2;", "`row 1;", "{row 1;", "1;", ";", "row`1;", "row{1;"};
        for (String text : none) {
            edges.due("none such: " + text, -9, Check.port(x, text));
            int place = text.startsWith("row`") || text.startsWith("row{") ? 3 : 0;
            edges.due("at the first byte of " + text, place, x.fault());
        }
        edges.due("to the last letter of all", -9, Check.port(x, "rowz 1;"));
        edges.due("to the last letter of all", 0, x.fault());
        edges.due("a number may follow at once", 1, Check.port(x, "row5;bid3 2;kin1 2;writer0 7;knows0 0;"));
        edges.due("a number may follow at once", 5, x.row(0, 0));
    }

    private static void blanks() {
        ChalkWall x = new ChalkWall();
        edges.due("everywhere", 1, Check.port(x,
                "  row   5  ;  bid   3   2  ;  kin  1  2  ;  writer  0  7  ;  knows  0  0  ;  "));
        edges.due("everywhere", 1, x.writer(0, 3));
        edges.due("nowhere", 1, Check.port(x, "row5;bid3 2;"));
        edges.due("alone", 0, Check.port(x, "     "));
        edges.due("not in a number", -9, Check.port(x, "row 1 2;"));
        edges.due("not in a number", 6, x.fault());
        for (int sign : new int[] {0, 9, 10, 13, 31, 33, 160}) {
            edges.due(sign + " is no blank", -9, Check.port(x, "row" + (char) sign + "5;"));
            edges.due(sign + " is no blank", 3, x.fault());
            edges.due(sign + " is no blank at the end", -9, Check.port(x, "row 5;" + (char) sign));
            edges.due(sign + " is no blank at the end", 6, x.fault());
        }
    }
}
