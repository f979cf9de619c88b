/** Promises 1 to 8: a new object, the TAPE, the four texts with their FAULTS, undoing. */
public final class TextsTest {
    private static final String PORT = "row 10;row 6;row 12;bid 0 4;bid 3 5;bid 1 6;bid 8 2;"
            + "kin 0 1;kin 1 2;kin 2 0;kin 3 4;writer 1 9;writer 2 20;"
            + "knows 0 0;knows 0 1;knows 1 1;knows 1 2;knows 1 3;";

    private static final Check check = new Check();

    public static void main(String[] args) {
        newObject();
        tape();
        port();
        portFaults();
        portLimits();
        law();
        lawFaults();
        lawValues();
        work();
        workFaults();
        workBegins();
        workSteps();
        workFull();
        deeds();
        deedsFaults();
        fault();
        undo();
        check.end("TextsTest");
    }

    private static void newObject() {
        ChalkWall x = new ChalkWall();
        for (int what = 0; what <= 9; what++) {
            check.due("1: told(" + what + ")", 0, x.told(what));
        }
        check.due("1: fault", -1, x.fault());
        check.due("1: undo", -1, x.undo());
        check.due("1: restore", -1, x.restore());
        check.due("1: would", 3 * 10 + 15, x.would(3, 15, 19, 5, 9, 500, 3, 19));
        for (int what = 0; what <= 2; what++) {
            check.due("1: count", 0, x.count(what));
        }
        for (int act = 0; act <= 9; act++) {
            check.due("1: kin", -1, x.kin(act));
        }
        check.due("1: idle", 0, x.idle());
        check.due("1: NONE", -1, ChalkWall.NONE);
    }

    private static void tape() {
        ChalkWall x = new ChalkWall();
        // "row 7;bid 9 15;     "
        int[] v = {0x726f7720, 0x373b6269, 0x64203920, 0x31353b20, 0x20202020};
        check.due("2: first feed", 20, x.feed(v[0], v[1], v[2], v[3], v[4]));
        check.due("2: bytes", 20, x.count(1));
        check.due("2: highest byte first", 1, x.port(20));
        check.due("2: row", 7, x.row(0, 0));
        check.due("2: bid", 9, x.bid(0, 0));
        check.due("2: letters", 15, x.bid(0, 1));
        check.due("2: empty then", 0, x.count(1));
        for (int i = 1; i <= 30; i++) {
            check.due("2: feed " + i, 20 * i, x.feed(0x20202020, 0x20202020, 0x20202020, 0x20202020, 0x2020203b));
        }
        check.due("2: too many", -1, x.feed(v[0], v[1], v[2], v[3], v[4]));
        check.due("2: does nothing", 600, x.count(1));
        check.due("2: still what it was", -9, x.port(600));
        check.due("2: still what it was", 19, x.fault());
        check.due("2: room again", 20, x.feed(-1, -1, -1, -1, -1));
        check.due("2: bytes of 255", -9, x.port(20));
        check.due("2: bytes of 255", 0, x.fault());
    }

    private static void port() {
        ChalkWall x = new ChalkWall();
        check.due("3: bids", 4, Check.port(x, PORT));
        int n = Check.feed(x, "row 1;");
        check.illegal("3: below 0", () -> x.port(-1));
        check.illegal("3: above the tape", () -> x.port(21));
        check.due("3: tape stays", 20, x.count(1));
        check.due("3: port stays", 4, x.told(1));
        Check.feed(x, "bid 1 1;");
        check.due("3: the first n alone", 0, x.port(n));
        check.due("3: empty then", 0, x.count(1));
        check.due("3: a row", 1, x.told(0));
        check.due("3: empty text", 0, x.port(0));
        check.due("3: no row", 0, x.told(0));
        check.due("3: blanks alone", 0, Check.port(x, "    "));
        check.due("3: blanks anywhere", 1,
                Check.port(x, "  row   5 ;  bid   3   2  ;kin 1 2 ;  writer 0 7;knows  0  0   ;   "));
        check.due("3: knows", 1, x.writer(0, 3));
        check.due("3: no blanks", 1, Check.port(x, "row5;bid3 2;writer0 7;knows0 0;"));
        check.due("3: noughts ahead", 1, Check.port(x, "row 00000000000000030;bid 09 015;"));
        check.due("3: noughts ahead", 30, x.row(0, 0));
        check.due("3: the last kin counts", 0, Check.port(x, "kin 4 5;kin 4 6;kin 5 6;kin 4 7;"));
        check.due("3: the last kin counts", 7, x.kin(4));
        portAnew();
    }

    private static void portAnew() {
        ChalkWall x = Check.withPort(PORT);
        Check.law(x, "7");
        Check.deeds(x, "1 1;");
        Check.work(x, "write 0 0 0;slip 0;night;write 1 1 1;slip 3;");
        x.image();
        check.due("3: a fault", -9, Check.port(x, "row 1;row"));
        check.due("3: fault's place", 9, x.fault());
        int[] kept = {3, 4, 2, 1, 1, 5, 8, 1, 1, 2};
        for (int what = 0; what < kept.length; what++) {
            check.due("3: all stays, told(" + what + ")", kept[what], x.told(what));
        }
        check.due("3: works stay", 1, x.count(2));
        check.due("3: images stay", 1, x.count(0));
        check.due("3: tape is empty", 0, x.count(1));
        check.due("3: law stays", 7, x.would(0, 1, 0, 0, 0, 0, 0, 0));
        check.due("3: anew", 4, Check.port(x, PORT));
        int[] fresh = {3, 4, 2, 0, 0, 0, 0, 0, 0, 0};
        for (int what = 0; what < fresh.length; what++) {
            check.due("3: anew, told(" + what + ")", fresh[what], x.told(what));
        }
        check.due("3: no image", -1, x.restore());
        check.due("3: nothing to undo", -1, x.undo());
        check.due("3: no law", 21, x.would(2, 1, 0, 0, 0, 0, 0, 0));
        check.due("3: remembered as told", 0, x.bid(0, 0));
        check.due("3: did not slip", 0, x.bid(0, 3));
        check.due("3: chalk", 9, x.writer(0, 2));
    }

    private static void portFault(String text, int kind, int place) {
        ChalkWall x = new ChalkWall();
        check.due("3: port '" + text + "'", kind - 10, Check.port(x, text));
        check.due("3, 7: place in '" + text + "'", place, x.fault());
    }

    private static void portFaults() {
        portFault(";", 1, 0);
        portFault("  ;", 1, 2);
        portFault("Row 1;", 1, 0);
        portFault("rows 1;", 1, 0);
        portFault("ro 1;", 1, 0);
        portFault("rowz1;", 1, 0);
        portFault("rowa1;", 1, 0);
        portFault("row`1;", 1, 3);
        portFault("row{1;", 1, 3);
        portFault("row /1;", 1, 4);
        portFault("row :1;", 1, 4);
        portFault("r", 1, 0);
        portFault("write 0 0 0;", 1, 0);
        portFault("row", 1, 3);
        portFault("row   ", 1, 6);
        portFault("row;", 1, 3);
        portFault("row  x;", 1, 5);
        portFault("row -1;", 1, 4);
        portFault("row 1", 1, 5);
        portFault("row 1   ", 1, 8);
        portFault("row 1 2;", 1, 6);
        portFault("row 1;;", 1, 6);
        portFault("row 1,", 1, 5);
        portFault("row 0;", 2, 4);
        portFault("row 31", 2, 4);
        portFault("row 4294967297;", 2, 4);
        portFault("row 18446744073709551617;", 2, 4);
        portFault("bid 10 1;", 2, 4);
        portFault("bid 1 0;", 2, 6);
        portFault("bid 1 16;", 2, 6);
        portFault("bid 1;", 1, 5);
        portFault("bid 11;", 2, 4);
        portFault("kin 1 1;", 2, 6);
        portFault("kin 10 1;", 2, 4);
        portFault("kin 1 10;", 2, 6);
        portFault("kin 1 ;", 1, 6);
        portFault("writer 4 1;", 2, 7);
        portFault("writer 0 0;", 2, 9);
        portFault("writer 0 61;", 2, 9);
        portFault("bid 1 1;knows 0 0;writer 0 1;", 2, 14);
        portFault("writer 0 1;knows 0 0;bid 1 1;", 2, 19);
        portFault("writer 0 1;bid 1 1;knows 1 0;", 2, 25);
        portFault("writer 0 1;bid 1 1;knows 0 1;", 2, 27);
        portFault("row 1;\tbid 1 1;", 1, 6);
        portFault("row 1; \u00e9", 1, 7);
    }

    private static void portLimits() {
        portFault(Check.times("row 1;", 4) + " row", 3, 25);
        portFault(Check.times("row 1;", 4) + "row 99;", 3, 24);
        portFault(Check.times("row 1;", 4) + "rows 1;", 1, 24);
        portFault(Check.times("bid 1 1;", 8) + "bid 1 1;", 3, 64);
        portFault(Check.times("writer 1 1;", 6) + "writer 1 1;", 3, 66);
        portFault(Check.times("kin 1 2;", 60) + "kin 1 2;", 3, 480);
        portFault(Check.times("kin 1 2;", 60) + " kins 1 2;", 1, 481);
        portFault(Check.times("kin 1 2;", 60) + "row 99;", 3, 480);
        portFault(Check.times("kin 1 2;", 60) + ";", 1, 480);
        ChalkWall x = new ChalkWall();
        check.due("3: sixty clauses", 0, Check.port(x, Check.times("kin 1 2;", 60) + " "));
        check.due("3: the most of all", 8, Check.port(x, Check.times("row 30;", 4) + Check.times("bid 9 15;", 8)
                + Check.times("writer 3 60;", 6) + "knows 5 7;"));
        check.due("3: rows", 4, x.told(0));
        check.due("3: writers", 6, x.told(2));
    }

    private static void law() {
        ChalkWall x = new ChalkWall();
        check.due("4: a law", 1, Check.law(x, "  ( act  ) "));
        check.due("4: act", 9, x.would(0, 1, 0, 0, 9, 0, 0, 0));
        Check.feed(x, Check.times(" ", 151));
        check.illegal("4: above 150", () -> x.law(151));
        check.illegal("4: below 0", () -> x.law(-1));
        check.due("4: tape stays", 160, x.count(1));
        check.due("4: blanks alone", -9, x.law(150));
        check.due("4: at the length", 150, x.fault());
        check.illegal("4: above the tape", () -> x.law(1));
        check.due("4: fault stays", 150, x.fault());
        check.due("4: nothing", -9, x.law(0));
        check.due("4: law stays", 9, x.would(0, 1, 0, 0, 9, 0, 0, 0));
        check.due("4: as long as can be", 1, Check.law(x, Check.times("1+", 74) + "22"));
        check.due("4: as long as can be", 96, x.would(0, 1, 0, 0, 9, 0, 0, 0));
        check.due("4: the first n alone", 1, x.law(Check.feed(x, "day + 5") - 4));
        check.due("4: the first n alone", 77, x.would(0, 1, 0, 0, 9, 77, 0, 0));
    }

    private static void lawFault(String text, int kind, int place) {
        ChalkWall x = new ChalkWall();
        check.due("4: law '" + text + "'", kind - 10, Check.law(x, text));
        check.due("4, 7: place in '" + text + "'", place, x.fault());
    }

    private static void lawFaults() {
        lawFault("acts", 1, 0);
        lawFault("Act", 1, 0);
        lawFault("1000", 2, 0);
        lawFault("1 1000", 1, 2);
        lawFault("1 + 4294967296", 2, 4);
        lawFault("1 +", 1, 3);
        lawFault("1 + ;", 1, 4);
        lawFault("- 1", 1, 0);
        lawFault("1 -- 1", 1, 3);
        lawFault("row row", 1, 4);
        lawFault("rowrow", 1, 0);
        lawFault("1;", 1, 1);
        lawFault("(1", 1, 2);
        lawFault("()", 1, 1);
        lawFault("(1]", 1, 2);
        lawFault("1)", 1, 1);
        lawFault("least", 1, 5);
        lawFault("least (1,2)", 1, 6);
        lawFault("least [1]", 1, 8);
        lawFault("least [1,2", 1, 10);
        lawFault("most [1,2)", 1, 9);
        lawFault("most [,2]", 1, 6);
        lawFault("most [1,2,3]", 1, 9);
        lawFault("(((((((1)))))))", 3, 6);
        lawFault("(((((( least", 3, 7);
        lawFault("((((((1(", 1, 7);
        lawFault("(((((( mosts", 1, 7);
        lawFault(Check.times("most[", 6) + " most[1,2]", 3, 31);
        lawFault("(least[1,((((((1))))))])", 3, 13);
        lawFault("[1]", 1, 0);
    }

    private static int weighed(String text) {
        ChalkWall x = new ChalkWall();
        check.due("4: law '" + text + "'", 1, Check.law(x, text));
        return x.would(3, 15, 11, 5, 7, 500, 2, 19);
    }

    private static void lawValues() {
        check.due("4: words", 3, weighed("row"));
        check.due("4: words", 15, weighed("letters"));
        check.due("4: words", 11, weighed("place"));
        check.due("4: words", 5, weighed("writer"));
        check.due("4: words", 7, weighed("act"));
        check.due("4: words", 500, weighed("day"));
        check.due("4: words", 2, weighed("reach"));
        check.due("4: words", 19, weighed("old"));
        check.due("4: numbers", 999, weighed("000999"));
        check.due("4: from the left", 3, weighed("10 - 5 - 2"));
        check.due("4: from the left", 2, weighed("20 / 5 / 2"));
        check.due("4: from the left", 6, weighed("20 / 6 * 2"));
        check.due("4: products ahead of sums", 14, weighed("2 + 3 * 4"));
        check.due("4: brackets", 20, weighed("(2 + 3) * 4"));
        check.due("4: cuts", -3, weighed("(0 - 7) / 2"));
        check.due("4: sign of what is divided", -1, weighed("(0 - 7) % 2"));
        check.due("4: sign of what is divided", 1, weighed("7 % (0 - 2)"));
        check.due("4: by 0", 0, weighed("7 / 0"));
        check.due("4: by 0", 0, weighed("7 % (row - 3)"));
        check.due("4: least", 3, weighed("least[row,5]"));
        check.due("4: most", 5, weighed("most [ row , 5 ]"));
        check.due("4: least in brackets", 3, weighed("(least[row,5])"));
        check.due("4: brackets in brackets", 8, weighed("((least[row,5])+most[(1),(5)])"));
        check.due("4: six open", 1, weighed("((((((1))))))"));
        check.due("4: six open, and again", 4, weighed("least[((((( 4 ))))),9]*((((((1))))))"));
        check.due("4: wraps", 999 * 999 * 999 * 999, weighed("999*999*999*999"));
        check.due("4: the least number by -1", Integer.MIN_VALUE,
                weighed("(512*512*512*16)/(0-1)"));
        check.due("4: the least number by -1", 0, weighed("(512*512*512*16)%(0-1)"));
        check.due("4: least of wrapped", Integer.MIN_VALUE, weighed("least[512*512*512*16,1]"));
    }

    private static void work() {
        ChalkWall x = Check.withPort(PORT);
        check.due("5: done", 5, Check.work(x,
                "write 0 0 1;write 0 0 2;write 1 2 0;write 1 1 2;write 0 1 0;slip 0;slip 3;write 0 0 0;"));
        check.due("5: refused", 3, x.told(8));
        check.due("5: nothing to do", 0, x.work(0));
        check.due("5: a work, too", 2, x.count(2));
        check.due("5: refused", 0, x.told(8));
        Check.work(x, "rain 4;rain 4;");
        check.due("5: refused", 1, x.told(8));
        check.due("5: a fault", -9, Check.work(x, "slip 0;rain 1;x"));
        check.due("5: none is done", 1, x.bid(0, 0));
        check.due("5: no work", 3, x.count(2));
        check.due("5: of the latest that was done", 1, x.told(8));
        Check.feed(x, Check.times(" ", 160));
        check.illegal("5: above 150", () -> x.work(151));
        check.illegal("5: below 0", () -> x.work(-1));
        check.due("5: tape stays", 160, x.count(1));
        check.due("5: blanks alone", 0, x.work(150));
        check.illegal("5: above the tape", () -> x.work(1));
    }

    private static void workFault(String text, int kind, int place) {
        ChalkWall x = Check.withPort(PORT);
        check.due("5: work '" + text + "'", kind - 10, Check.work(x, text));
        check.due("5, 7: place in '" + text + "'", place, x.fault());
        check.due("5: none is done", 0, x.count(2));
    }

    private static void workFaults() {
        workFault("nights;", 1, 0);
        workFault("night", 1, 5);
        workFault("night 1;", 1, 6);
        workFault("night;]", 1, 6);
        workFault(";", 1, 0);
        workFault("write 2 0 0;", 2, 6);
        workFault("write 0 4 0;", 2, 8);
        workFault("write 0 0 3;", 2, 10);
        workFault("write 0 0;", 1, 9);
        workFault("slip 4;", 2, 5);
        workFault("slip;", 1, 4);
        workFault("rain 0;", 2, 5);
        workFault("rain 5;", 2, 5);
        workFault("again 31 [];", 2, 6);
        workFault("again [];", 1, 6);
        workFault("again 1 night;", 1, 8);
        workFault("again 1 [night];", 1, 14);
        workFault("again 1 [night;]", 1, 16);
        workFault("again 1 [night;", 1, 15);
        workFault("again 1 [;];", 1, 9);
        workFault("again 1 [slip 9;x", 2, 14);
        workFault(Check.times("again 1[", 6) + " again", 3, 49);
        workFault(Check.times("again 1[", 6) + "agains", 1, 48);
        ChalkWall x = new ChalkWall();
        check.due("5: none told", -8, Check.work(x, "write 0 0 0;"));
        check.due("5: none told", 6, x.fault());
        check.due("5: none told", -8, Check.work(x, "slip 0;"));
        check.due("5: six open", 1, Check.work(x, Check.times("again 1[", 6) + "night;" + Check.times("];", 6)));
        check.due("5: six open, and again", 0, Check.work(x, "again 0[];" + Check.times("again 1[", 6)
                + Check.times("];", 6)));
    }

    private static int nights(String text) {
        ChalkWall x = new ChalkWall();
        int done = Check.work(x, text);
        check.due("5: as many days", done, x.told(3));
        return done;
    }

    private static void workBegins() {
        check.due("5: no time", 0, nights("again 0 [night;];"));
        check.due("5: as many steps as a text can have", 25, nights(Check.times("night;", 25)));
        check.due("5: thirty times", 30, nights("again 30 [night;];"));
        check.due("5: two hundred begun, with the agains", 192, nights("again 30[again 30[night;];];"));
        check.due("5: 1 and 30 times 3", 60, nights("again 30[again 2[night;];];"));
        check.due("5: what comes behind is left out", 192, nights("again 30[again 30[night;];];night;"));
        check.due("5: the last that is begun", 198,
                nights("again 30[" + Check.times("night;", 6) + "];again 30[night;];"));
        check.due("5: empty agains are begun", 0, nights("again 30[again 30[again 30[];];];night;"));
        ChalkWall x = new ChalkWall();
        check.due("5: refused ones are begun", 24, Check.work(x, "again 30[again 3[rain 1;rain 2;];night;];"));
        check.due("5: refused ones are begun", 150, x.told(8));
    }

    private static void workSteps() {
        ChalkWall x = Check.withPort("row 3;row 30;row 1;bid 2 3;bid 4 1;bid 6 2;kin 2 3;"
                + "writer 1 20;writer 2 60;knows 0 0;knows 0 1;knows 1 1;");
        check.due("5: not remembered", 0, Check.work(x, "write 1 0 1;"));
        check.due("5: above his reach", 0, Check.work(x, "write 0 1 2;"));
        check.due("5: in his reach", 1, Check.work(x, "write 1 1 2;"));
        check.due("5: no room", 0, Check.work(x, "write 1 1 2;"));
        check.due("5: room to the last letter", 1, Check.work(x, "write 0 0 0;"));
        check.due("5: chalk is less", 17, x.writer(0, 2));
        check.due("5: no chalk", 5, Check.work(x, "again 6[write 0 0 1;];"));
        check.due("5: no chalk", 2, x.writer(0, 2));
        check.due("5: chalk to the last letter", 2, Check.work(x, "again 3[write 0 1 1;];"));
        check.due("5: twenty lines", 11, Check.work(x, "again 30[write 1 1 1;];"));
        check.due("5: twenty lines", 20, x.told(4));
        check.due("5: refused", 19, x.told(8));
        check.due("5: rain on the lowest", 1, Check.work(x, "rain 1;"));
        check.due("5: rain", 19, x.told(4));
        check.due("5: chalk is not given back", 0, x.writer(0, 2));
        check.due("5: rain where nothing stands", 0, Check.work(x, "rain 1;"));
        check.due("5: slip, and no kin then", 1, Check.work(x, "slip 0;slip 0;slip 1;"));
        check.due("5: night", 1, Check.work(x, "night;"));
        check.due("5: chalk again", 20, x.writer(0, 2));
        check.due("5: white", 0, x.told(4));
        check.due("5: the slip stays", 3, x.bid(0, 0));
        check.due("5: rain on more rows than are", 2, Check.work(x, "write 1 1 2;rain 4;"));
    }

    private static void workFull() {
        ChalkWall x = Check.withPort(PORT);
        for (int i = 1; i <= 16; i++) {
            check.due("5: work " + i, 1, Check.work(x, "slip 0;"));
        }
        Check.law(x, "(");
        check.due("5: a fault ahead", 1, x.fault());
        check.due("5: a 17th", -20, Check.work(x, "slip 0;x"));
        check.due("5: there is no fault", -1, x.fault());
        check.due("5: the tape is empty", 0, x.count(1));
        check.due("5: nothing was done", 16, x.bid(0, 3));
        check.illegal("5: ahead of that", () -> x.work(1));
        check.due("5: one undone", 15, x.undo());
        check.due("5: room again", 1, Check.work(x, "slip 0;"));
        check.due("5: full again", -20, x.work(0));
        ChalkWall y = new ChalkWall();
        check.due("5: days", 192, Check.work(y, "again 30[again 30[night;];];"));
        check.due("5: days", 192, Check.work(y, "again 30[again 30[night;];];"));
        check.due("5: refused from 500 on", 116, Check.work(y, "again 30[again 30[night;];];"));
        check.due("5: refused from 500 on", 76, y.told(8));
        check.due("5: day 500", 500, y.told(3));
    }

    private static void deeds() {
        ChalkWall x = new ChalkWall();
        check.due("6: lines", 3, Check.deeds(x, " 0 1;5  0 ; 09 01; "));
        check.due("6: told", 3, x.told(7));
        check.due("6: all acts", 10, Check.deeds(x, "0 1;1 1;2 1;3 1;4 1;5 0;6 0;7 0;8 0;9 0;"));
        check.due("6: a fault", -8, Check.deeds(x, "0 1;0 1;"));
        check.due("6: all stays", 10, x.told(7));
        Check.feed(x, Check.times(" ", 61));
        check.illegal("6: above 60", () -> x.deeds(61));
        check.illegal("6: below 0", () -> x.deeds(-1));
        check.due("6: tape stays", 80, x.count(1));
        check.due("6: none", 0, x.deeds(60));
        check.illegal("6: above the tape", () -> x.deeds(1));
        check.due("6: none", 0, x.told(7));
    }

    private static void deedsFaults() {
        String[] texts = {"10 1;", "1 2;", "1 1;2 0;1 0;", "1;", "1 1", "x", "1 1;;", "11;", "1 1;1", "1 1 1;",
            "0 1;1 1;2 1;3 1;4 1;5 0;6 0;7 0;8 0;9 0;0 1;"};
        int[] kinds = {2, 2, 2, 1, 1, 1, 1, 2, 2, 1, 2};
        int[] places = {0, 2, 8, 1, 3, 0, 4, 0, 4, 4, 40};
        for (int i = 0; i < texts.length; i++) {
            ChalkWall x = new ChalkWall();
            check.due("6: deeds '" + texts[i] + "'", kinds[i] - 10, Check.deeds(x, texts[i]));
            check.due("6, 7: place in '" + texts[i] + "'", places[i], x.fault());
        }
    }

    private static void fault() {
        ChalkWall x = new ChalkWall();
        Check.port(x, "row 1;row 99;");
        check.due("7: a place", 10, x.fault());
        x.undo();
        x.restore();
        check.illegal("7: no text", () -> x.port(1));
        check.due("7: of the latest text", 10, x.fault());
        Check.law(x, "1");
        check.due("7: without", -1, x.fault());
        Check.deeds(x, "1 9;");
        check.due("7: deeds", 2, x.fault());
        x.work(0);
        check.due("7: without", -1, x.fault());
    }

    private static void undo() {
        ChalkWall x = Check.withPort(PORT);
        Check.work(x, "write 0 0 1;slip 0;slip 3;");
        Check.law(x, "9");
        Check.deeds(x, "1 1;");
        Check.work(x, "night;write 1 1 2;slip 0;rain 1;");
        check.due("8: refused", 1, x.told(8));
        check.due("8: one is left", 1, x.undo());
        check.due("8: refused behind it", 0, x.told(8));
        check.due("8: day", 0, x.told(3));
        check.due("8: lines", 1, x.told(4));
        check.due("8: the line", 0, x.line(0, 0));
        check.due("8: written", 1, x.told(9));
        check.due("8: act", 1, x.bid(0, 0));
        check.due("8: slips", 1, x.bid(0, 3));
        check.due("8: chalk", 5, x.writer(0, 2));
        check.due("8: chalk", 20, x.writer(1, 2));
        check.due("8: none is left", 0, x.undo());
        check.due("8: lines", 0, x.told(4));
        check.due("8: act", 0, x.bid(0, 0));
        check.due("8: written", 0, x.told(9));
        check.due("8: the law stays", 9, x.would(0, 1, 0, 0, 0, 0, 0, 0));
        check.due("8: the deeds stay", 1, x.told(7));
        check.due("8: there is none", -1, x.undo());
        check.due("8: the port stays", 4, x.told(1));
    }
}
