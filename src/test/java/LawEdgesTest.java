/** Promises 4 and 15 at their boundaries: the LAW's text, its values, FORCE for any numbers. */
public final class LawEdgesTest {
    private static final String LEAST = "(512*512*512*16)";
    private static final String MOST = "(512*512*512*16-1)";

    private static final Edges edges = new Edges();

    public static void main(String[] args) {
        edges.edge(4, "A LAW is a text of up to 150 bytes", LawEdgesTest::longestText);
        edges.edge(4, "Likewise the LAW (n to 150): 1.", LawEdgesTest::nBesideTheBounds);
        edges.edge(4, "E, at the end nothing more", LawEdgesTest::nothingMore);
        edges.edge(4, "without: row * 10 + letters", LawEdgesTest::withoutLaw);
        edges.edge(4, "U: N (0 to 999)", LawEdgesTest::numbers);
        edges.edge(4, "E: T { + or - T }. T: U { * or / or % U }.", LawEdgesTest::fromTheLeft);
        edges.edge(4, "\"least\" \"[\" E \",\" E \"]\", \"most\" \"[\" E \",\" E \"]\"", LawEdgesTest::leastAndMost);
        edges.edge(4, "Values are whole numbers of 32 bits that wrap", LawEdgesTest::wrapAround);
        edges.edge(4, "/ cuts, % leaves (with the sign of what is divided)", LawEdgesTest::divisions);
        edges.edge(4, "by 0 both are 0", LawEdgesTest::divisionsByNought);
        would();
        edges.end("LawEdgesTest", 4, 15);
    }

    private static void would() {
        edges.edge(15, "row (0 to 3)", () -> given("row", 0, 0, 3));
        edges.edge(15, "letters (1 to 15)", () -> given("letters", 1, 1, 15));
        edges.edge(15, "place (0 to 19)", () -> given("place", 2, 0, 19));
        edges.edge(15, "writer (0 to 5)", () -> given("writer", 3, 0, 5));
        edges.edge(15, "act (0 to 9)", () -> given("act", 4, 0, 9));
        edges.edge(15, "day (0 to 500)", () -> given("day", 5, 0, 500));
        edges.edge(15, "reach (0 to 3)", () -> given("reach", 6, 0, 3));
        edges.edge(15, "old (0 to 19)", () -> given("old", 7, 0, 19));
    }

    private static int would(ChalkWall x, int[] v) {
        return x.would(v[0], v[1], v[2], v[3], v[4], v[5], v[6], v[7]);
    }

    /** One of the eight numbers: taken from least to most, refused beside them, with no port told. */
    private static void given(String word, int which, int least, int most) {
        ChalkWall x = new ChalkWall();
        Check.law(x, word);
        for (int value : new int[] {least, most}) {
            int[] v = {2, 7, 9, 3, 6, 77, 1, 8};
            v[which] = value;
            edges.due("force by " + word, value, would(x, v));
        }
        edges.within(x, least, most, value -> {
            int[] v = {3, 15, 19, 5, 9, 500, 3, 19};
            v[which] = value;
            return would(x, v);
        });
        edges.within(x, least, most, value -> {
            int[] v = {0, 1, 0, 0, 0, 0, 0, 0};
            v[which] = value;
            return would(x, v);
        });
    }

    private static int force(ChalkWall x) {
        return x.would(3, 15, 11, 5, 7, 500, 2, 19);
    }

    private static void value(String text, int due) {
        ChalkWall x = new ChalkWall();
        edges.due("law '" + text + "'", 1, Check.law(x, text));
        edges.due("value of '" + text + "'", due, force(x));
    }

    private static void longestText() {
        value(Check.times("1+", 74) + "22", 96);
        value(Check.times("0-", 74) + "1 ", -1);
        value(Check.times(" ", 147) + "999", 999);
        value("7" + Check.times(" ", 149), 7);
    }

    private static void nBesideTheBounds() {
        ChalkWall x = new ChalkWall();
        Check.law(x, "77");
        Check.feed(x, Check.times("1+", 75) + "1");
        edges.due("fed", 160, x.count(1));
        for (int n : new int[] {-1, 151, 160, 161, Integer.MIN_VALUE, Integer.MAX_VALUE}) {
            edges.illegal(n + " of 160 bytes", () -> x.law(n));
        }
        edges.due("refused", 6, x.status(1));
        edges.due("the tape stays", 160, x.count(1));
        edges.due("the law stays", 77, force(x));
        edges.due("150 of them", -9, x.law(150));
        edges.due("they end too early", 150, x.fault());
        edges.due("empty then", 0, x.count(1));
        edges.due("the law stays", 77, force(x));
        edges.illegal("one of none", () -> x.law(1));
        Check.feed(x, "88888888888888888888");
        edges.illegal("21 of 20", () -> x.law(21));
        edges.due("two of 20", 1, x.law(2));
        edges.due("the first ones alone", 88, force(x));
        edges.due("an empty text", -9, x.law(0));
        edges.due("an empty text", 0, x.fault());
        edges.due("the law stays", 88, force(x));
    }

    private static void nothingMore() {
        for (String more : new String[] {"1", "row", "(", ")", "]", "[", ",", ";", "least"}) {
            ChalkWall x = new ChalkWall();
            Check.law(x, "5");
            edges.due("with " + more, -9, Check.law(x, "12 " + more));
            edges.due("its place", 3, x.fault());
            edges.due("the law stays", 5, force(x));
        }
        value("12   ", 12);
    }

    private static void withoutLaw() {
        ChalkWall x = new ChalkWall();
        edges.due("a new one", 45, force(x));
        edges.due("the least", 1, x.would(0, 1, 0, 0, 0, 0, 0, 0));
        Check.law(x, "(");
        edges.due("behind a fault", 45, force(x));
        Check.law(x, "1");
        edges.due("a law", 1, force(x));
        x.port(0);
        edges.due("behind a port", 45, force(x));
    }

    private static void numbers() {
        value("0", 0);
        value("999", 999);
        value("000000999", 999);
        for (String more : new String[] {"1000", "4294967296", "4294967297", "18446744073709551617"}) {
            ChalkWall x = new ChalkWall();
            edges.due(more, -8, Check.law(x, "1+ " + more));
            edges.due("place of " + more, 3, x.fault());
        }
    }

    private static void fromTheLeft() {
        value("10-5-2", 3);
        value("20/5/2", 2);
        value("20/6*2", 6);
        value("7%4*2", 6);
        value("2+3*4", 14);
        value("2*3+4", 10);
        value("(2+3)*4", 20);
        value("((((((row))))))", 3);
    }

    private static void leastAndMost() {
        value("least[1,2]", 1);
        value("least[2,1]", 1);
        value("most[1,2]", 2);
        value("most[2,1]", 2);
        value("least[4,4]", 4);
        value("most[4,4]", 4);
        value("least[" + LEAST + "," + MOST + "]", Integer.MIN_VALUE);
        value("most[" + LEAST + "," + MOST + "]", Integer.MAX_VALUE);
        value("most[0-1,0]", 0);
        value("least[0-1,0]", -1);
    }

    private static void wrapAround() {
        value(LEAST, Integer.MIN_VALUE);
        value(MOST, Integer.MAX_VALUE);
        value(MOST + "+1", Integer.MIN_VALUE);
        value(LEAST + "-1", Integer.MAX_VALUE);
        value("0-" + LEAST, Integer.MIN_VALUE);
        value(MOST + "*2", -2);
        value(LEAST + "*2", 0);
        value(LEAST + "*" + LEAST, 0);
        value("999*999*999", 997002999);
        // 996005996001 less 232 times 2 to the 32nd.
        value("999*999*999*999", -426416671);
        value(LEAST + "/(0-1)", Integer.MIN_VALUE);
        value(LEAST + "%(0-1)", 0);
    }

    private static void divisions() {
        value("7/2", 3);
        value("(0-7)/2", -3);
        value("7/(0-2)", -3);
        value("(0-7)/(0-2)", 3);
        value("1/2", 0);
        value("(0-1)/2", 0);
        value("7%2", 1);
        value("(0-7)%2", -1);
        value("7%(0-2)", 1);
        value("(0-7)%(0-2)", -1);
        value("6%3", 0);
        value("(0-6)%3", 0);
        value(LEAST + "/2", -1073741824);
        value(LEAST + "%3", -2);
    }

    private static void divisionsByNought() {
        value("7/0", 0);
        value("7%0", 0);
        value("0/0", 0);
        value("0%0", 0);
        value("(0-7)/(row-3)", 0);
        value("(0-7)%(row-3)", 0);
        value(LEAST + "/0", 0);
        value(MOST + "%0", 0);
        value("5+7/0*3", 5);
    }
}
