/** Promise 7 at its boundaries: of which FAULT the place is told, for all four texts. */
public final class FaultEdgesTest {
    // A BID, a WRITER and a ROW, so that a number above 0 is none of theirs.
    private static final String PORT = "row 9;bid 0 1;writer 0 9;knows 0 0;";
    private static final String SIXTY = Check.times("kin 1 2;", 60);
    private static final String SIX_AGAIN = Check.times("again 1[", 6);

    private static final Edges edges = new Edges();

    public static void main(String[] args) {
        edges.edge(7, "FAULTS, the first from the left, at its first byte", FaultEdgesTest::firstFromTheLeft);
        edges.edge(7, "1 what can't stand there", FaultEdgesTest::whatCantStand);
        edges.edge(7, "WORDS: small letters, as many as stand there", FaultEdgesTest::otherWords);
        edges.edge(7, "(at the length, if the text ends too early)", FaultEdgesTest::endsTooEarly);
        edges.edge(7, "The first n bytes of the TAPE", FaultEdgesTest::othersBehind);
        edges.edge(7, "(empty then)", FaultEdgesTest::earlierText);
        edges.edge(7, "A PORT is a text of up to 600 bytes", FaultEdgesTest::fullTape);
        edges.edge(7, "2 a number that is none such (an A twice; B of kin as A)", FaultEdgesTest::numbers);
        edges.edge(7, "3 a CLAUSE, ROW, BID or WRITER (at its word)", FaultEdgesTest::tooManyClauses);
        edges.edge(7, "or a 7th of ( least most again that is open at one time", FaultEdgesTest::seventhOpen);
        edges.edge(7, "of one the least.", FaultEdgesTest::ofOneTheLeast);
        edges.edge(7, "The place of the FAULT of the latest text; NONE without.", FaultEdgesTest::latestText);
        edges.end("FaultEdgesTest", 7);
    }

    private static int read(ChalkWall x, String kind, String text) {
        switch (kind) {
            case "port": return Check.port(x, text);
            case "law": return Check.law(x, text);
            case "work": return Check.work(x, text);
            default: return Check.deeds(x, text);
        }
    }

    private static void fault(String kind, String text, int due, int place) {
        ChalkWall x = Check.withPort(PORT);
        edges.due(kind + " '" + text + "'", due - 10, read(x, kind, text));
        edges.due("place in " + kind + " '" + text + "'", place, x.fault());
    }

    private static void fine(String kind, String text) {
        ChalkWall x = Check.withPort(PORT);
        edges.due(kind + " '" + text + "' is fine", true, read(x, kind, text) >= 0);
        edges.due("no place in " + kind + " '" + text + "'", -1, x.fault());
    }

    private static void firstFromTheLeft() {
        fault("port", "row 31;x", 2, 4);
        fault("port", "x;row 31;", 1, 0);
        fault("port", "kin 1 1;row;", 2, 6);
        fault("port", "row 1 2;row 99;", 1, 6);
        fault("port", Check.times("row 1;", 4) + "row 99 x", 3, 24);
        fault("port", "bid 99 99;", 2, 4);
        fault("law", "1000+x", 2, 0);
        fault("law", "x+1000", 1, 0);
        fault("law", "1+(1000", 2, 3);
        fault("law", "(((((((1000", 3, 6);
        fault("law", "((((((1000(", 2, 6);
        fault("work", "slip 9;nights;", 2, 5);
        fault("work", "nights;slip 9;", 1, 0);
        fault("work", "write 9 9 9;", 2, 6);
        fault("work", SIX_AGAIN + "again 99[", 3, 48);
        fault("deeds", "1 2;x", 2, 2);
        fault("deeds", "x;1 2;", 1, 0);
        fault("deeds", "1 1;1 2;", 2, 4);
        fault("deeds", "1 1;10 2;", 2, 4);
    }

    private static void whatCantStand() {
        fault("port", "row 1 ;;", 1, 7);
        fault("port", "row 1,", 1, 5);
        fault("port", "row row 1;", 1, 4);
        fault("port", "  rowx 1;", 1, 2);
        fault("port", "bid 0;", 1, 5);
        fault("law", "1 1", 1, 2);
        fault("law", "row letters", 1, 4);
        fault("law", "+1", 1, 0);
        fault("law", "least 1", 1, 6);
        fault("law", "least[1;2]", 1, 7);
        fault("law", "[1]", 1, 0);
        fault("law", ")", 1, 0);
        fault("work", "rain;", 1, 4);
        fault("work", "night 1;", 1, 6);
        fault("work", "night;]", 1, 6);
        fault("work", "again 2 night;", 1, 8);
        fault("work", "again 2[night]", 1, 13);
        fault("work", "again 2[night;)", 1, 14);
        fault("deeds", "1,1;", 1, 1);
        fault("deeds", "1 1 1;", 1, 4);
        fault("deeds", "a 1;", 1, 0);
        fault("deeds", ";", 1, 0);
    }

    /** A word can stand, but neither with another letter in any place, nor with one less or more. */
    private static void word(String kind, String ahead, String word, String behind) {
        fine(kind, ahead + word + behind);
        for (int i = 0; i < word.length(); i++) {
            String first = ahead + word.substring(0, i);
            String rest = word.substring(i + 1) + behind;
            fault(kind, first + (char) (word.charAt(i) + 1) + rest, 1, ahead.length());
            fault(kind, first + rest, 1, ahead.length());
        }
        fault(kind, ahead + word + "a" + behind, 1, ahead.length());
        fault(kind, ahead + word + "z" + behind, 1, ahead.length());
    }

    private static void otherWords() {
        word("port", "", "row", " 1;");
        word("port", "", "bid", " 1 1;");
        word("port", "", "kin", " 1 2;");
        word("port", "", "writer", " 1 1;");
        word("port", "bid 0 1;writer 0 1;", "knows", " 0 0;");
        for (String law : new String[] {"row", "letters", "place", "writer", "act", "day", "reach", "old"}) {
            word("law", "", law, "");
        }
        word("law", "", "least", "[1,2]");
        word("law", "", "most", "[1,2]");
        word("work", "", "write", " 0 0 0;");
        word("work", "", "slip", " 0;");
        word("work", "", "rain", " 1;");
        word("work", "", "night", ";");
        word("work", "", "again", " 1[];");
    }

    private static int readFirst(ChalkWall x, String kind, int n) {
        switch (kind) {
            case "port": return x.port(n);
            case "law": return x.law(n);
            case "work": return x.work(n);
            default: return x.deeds(n);
        }
    }

    /** A text, cut behind each of its bytes: where its FAULT is then, NONE where it can end. */
    private static void cut(String kind, String text, int[] places) {
        edges.due("a place for each cut of '" + text + "'", text.length() + 1, places.length);
        for (int n = 0; n < places.length; n++) {
            if (places[n] == -1) {
                fine(kind, text.substring(0, n));
            } else {
                fault(kind, text.substring(0, n), 1, places[n]);
            }
            first(kind, text, n, places[n]);
        }
    }

    /** The first n bytes of a text, with the others behind them on the TAPE. */
    private static void first(String kind, String text, int n, int place) {
        ChalkWall x = Check.withPort(PORT);
        Check.feed(x, text);
        edges.due(n + " bytes of " + kind + " '" + text + "'", place == -1, readFirst(x, kind, n) >= 0);
        edges.due("place in " + n + " bytes of " + kind + " '" + text + "'", place, x.fault());
    }

    private static void othersBehind() {
        first("law", "row+1", 3, -1);
        first("law", "row-1", 3, -1);
        first("law", "row*1", 3, -1);
        first("law", "row/1", 3, -1);
        first("law", "row%1", 3, -1);
        first("law", "rows", 3, -1);
        first("law", "olda", 3, -1);
        first("law", "oldz", 3, -1);
        first("law", "9999", 3, -1);
        first("law", "999]", 3, -1);
        first("law", "1  1", 3, -1);
        first("law", "((1))", 4, 4);
        first("law", "1+1", 2, 2);
        first("law", "most[", 4, 4);
        first("port", "row 1;;", 6, -1);
        first("port", "row 1;row", 6, -1);
        first("port", "row 1;", 5, 5);
        first("port", "rows", 3, 3);
        first("port", "row 111;", 5, 5);
        first("work", "again 1[night;];", 14, 14);
        first("work", "again 1[];", 8, 8);
        first("work", "again 1[];", 9, 9);
        first("work", "night;;", 6, -1);
        first("work", "nights", 5, 5);
        first("work", "slip 00;", 6, 6);
        first("deeds", "1 1;1 1;", 4, -1);
        first("deeds", "1 11;", 3, 3);
        first("deeds", "1 1;;", 4, -1);
    }

    /** Bytes of an earlier, longer text are not behind a later one. */
    private static void earlierText() {
        for (String sign : new String[] {"+", "*", "s", "7", ")", ";", "]"}) {
            ChalkWall x = Check.withPort(PORT);
            edges.due("an earlier text", -9, Check.law(x, Check.times(")", 20) + sign + "1"));
            edges.due("a text of 20 bytes ahead of " + sign, 1, Check.law(x, Check.times(" ", 17) + "row"));
            edges.due("an earlier text", -9, Check.law(x, Check.times(")", 20) + sign + "1"));
            edges.due("a number of 20 bytes ahead of " + sign, 1, Check.law(x, Check.times("0", 17) + "999"));
            edges.due("its value", 999, x.would(0, 1, 0, 0, 0, 0, 0, 0));
        }
        ChalkWall y = Check.withPort(PORT);
        edges.due("an earlier text", -9, Check.work(y, Check.times(")", 20) + "];"));
        edges.due("an again of 20 bytes", -9, Check.work(y, Check.times(" ", 12) + "again 1["));
        edges.due("ends too early", 20, y.fault());
    }

    /** A full TAPE, whose last byte ends what is read. */
    private static void fullTape() {
        String[] ends = {"row", "row 1", "row ", "bid 1 1", "writer 1 1", "knows"};
        for (String end : ends) {
            fault("port", Check.times(" ", 600 - end.length()) + end, 1, 600);
        }
        fine("port", Check.times(" ", 594) + "row 1;");
        fault("port", Check.times(" ", 597) + "xxx", 1, 597);
    }

    private static void endsTooEarly() {
        cut("port", "row 1;kin 1 2;", new int[] {-1, 0, 0, 3, 4, 5, -1, 6, 6, 9, 10, 11, 12, 13, -1});
        cut("law", "least[1,old]*(2)", new int[] {0, 0, 0, 0, 0, 5, 6, 7, 8, 8, 8, 11, -1, 13, 14, 15, -1});
        cut("work", "again 2[night;];", new int[] {-1, 0, 0, 0, 0, 5, 6, 7, 8, 8, 8, 8, 8, 13, 14, 15, -1});
        cut("deeds", "1 0;2 1;", new int[] {-1, 1, 2, 3, -1, 5, 6, 7, -1});
        fault("port", "row 1;row       ", 1, 16);
        fault("law", "      ", 1, 6);
        fault("law", Check.times(" ", 150), 1, 150);
        fault("work", "night   ", 1, 8);
        fault("deeds", "1 1   ", 1, 6);
    }

    private static void numbers() {
        fault("port", "row 0;", 2, 4);
        fault("port", "kin 3 3;", 2, 6);
        fault("port", "kin 3   003;", 2, 8);
        fault("port", "kin 3 3", 2, 6);
        fault("law", "1000", 2, 0);
        fault("work", "write 1 0 0;", 2, 6);
        fault("work", "write 0 1 0;", 2, 8);
        fault("work", "write 0 0 1;", 2, 10);
        fault("work", "slip 1;", 2, 5);
        fault("work", "rain 0;", 2, 5);
        fault("work", "rain 5;", 2, 5);
        fault("work", "again 31[", 2, 6);
        fault("deeds", "10 1;", 2, 0);
        fault("deeds", "1 2;", 2, 2);
        fault("deeds", "4 0;4 0;", 2, 4);
        fault("deeds", "4 0;5 1;  004 1;", 2, 10);
        fault("deeds", "4 0;4", 2, 4);
        fault("deeds", "0 0;32 1;", 2, 4);
    }

    private static void tooManyClauses() {
        fault("port", SIXTY + "kin 1 2;", 3, 480);
        fault("port", SIXTY + "  knows 9 9;", 3, 482);
        fault("port", Check.times("row 1;", 4) + "  row 1;", 3, 26);
        fault("port", Check.times("bid 1 1;", 8) + " bid 1 1;", 3, 65);
        fault("port", Check.times("writer 1 1;", 6) + "writer 1 1;", 3, 66);
        fault("port", Check.times("row 1;", 4) + "row", 3, 24);
        fine("port", SIXTY);
        fine("port", Check.times("row 1;", 4) + Check.times("bid 1 1;", 8) + Check.times("writer 1 1;", 6));
    }

    private static void seventhOpen() {
        fine("law", "((((((1))))))");
        fault("law", "(((((((1)))))))", 3, 6);
        fine("law", Check.times("least[", 6) + "1" + Check.times(",1]", 6));
        fault("law", Check.times("least[", 7) + "1" + Check.times(",1]", 7), 3, 36);
        fine("law", Check.times("most[1,", 6) + "1" + Check.times("]", 6));
        fault("law", Check.times("most[1,", 7) + "1" + Check.times("]", 7), 3, 42);
        fault("law", "((((((  least[1,2]", 3, 8);
        fault("law", "((((((most", 3, 6);
        fault("law", "least[most[(least[most[((", 3, 24);
        fine("law", "least[most[(least[most[(1),1],1]),1],1]");
        fine("law", "((((((1))))))+((((((1))))))");
        fine("law", "(1)+(1)+(1)+(1)+(1)+(1)+(1)");
        fault("law", "(least[((((1)))),((((((1))))))])", 3, 21);
        fine("work", SIX_AGAIN + "night;" + Check.times("];", 6));
        fault("work", SIX_AGAIN + "  again 1[", 3, 50);
        fault("work", SIX_AGAIN + "night;again", 3, 54);
        fine("work", Check.times("again 1[];", 7));
        fine("work", Check.times("again 1[", 5) + "again 1[];again 1[];" + Check.times("];", 5));
    }

    private static void ofOneTheLeast() {
        fault("port", SIXTY + "x", 1, 480);
        fault("port", SIXTY + ";", 1, 480);
        fault("port", SIXTY + "kins 1 2;", 1, 480);
        fault("port", SIXTY + "7", 1, 480);
        fault("port", Check.times("row 1;", 4) + "rows 1;", 1, 24);
        fault("port", Check.times("row 1;", 3) + "row 1 row 1;", 1, 24);
        fault("port", SIXTY.substring(0, 479) + " kin 1 2;", 1, 480);
        fault("law", "((((((1(", 1, 7);
        fault("law", "((((((1 least", 1, 8);
        fault("law", "((((((leasts", 1, 6);
        fault("law", "(((((()", 1, 6);
        fault("work", SIX_AGAIN + "agains", 1, 48);
        fault("work", SIX_AGAIN + "night again 1[", 1, 54);
    }

    private static void latestText() {
        ChalkWall x = new ChalkWall();
        edges.due("ahead of any text", -1, x.fault());
        Check.port(x, "row 1;row 99;");
        edges.due("port", 10, x.fault());
        Check.law(x, "12 x");
        edges.due("law", 3, x.fault());
        Check.work(x, "night;night;;");
        edges.due("work", 12, x.fault());
        Check.deeds(x, "1 5;");
        edges.due("deeds", 2, x.fault());
        edges.illegal("no text", () -> x.port(1));
        edges.illegal("no text", () -> x.law(-1));
        edges.illegal("no text", () -> x.work(1));
        edges.illegal("no text", () -> x.deeds(1));
        edges.due("behind a refused call", 2, x.fault());
        x.feed(0, 0, 0, 0, 0);
        edges.due("behind a feed", 2, x.fault());
        x.undo();
        x.restore();
        edges.due("behind an undo and a restore of nothing", 2, x.fault());
        edges.due("deeds again", 0, x.deeds(0));
        edges.due("without", -1, x.fault());
        x.image();
        x.work(0);
        Check.law(x, "1+");
        edges.due("undone", 0, x.undo());
        edges.due("behind an undo", 2, x.fault());
        edges.due("restored", 0, x.restore());
        edges.due("behind a restore", 2, x.fault());
        for (String kind : new String[] {"port", "law", "work", "deeds"}) {
            edges.due("a fault in " + kind, -9, read(x, kind, "  )"));
            edges.due("its place", 2, x.fault());
            edges.due("none in " + kind, true, read(x, kind, kind.equals("law") ? "1" : "  ") >= 0);
            edges.due("no place", -1, x.fault());
        }
    }
}
