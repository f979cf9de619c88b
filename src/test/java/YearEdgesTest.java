/** Promises 36 to 41 at their boundaries: YEARS by SEEDS, IMAGES, what was refused, counts. */
public final class YearEdgesTest {
    private static final String OTHER_WHAT = "IllegalArgumentException: another what (so below).";
    private static final String ONE = "row 30;bid 0 10;kin 0 1;writer 0 60;knows 0 0;";
    private static final String SMALL = "row 10;row 6;bid 0 4;bid 3 5;kin 0 1;kin 3 4;"
            + "writer 1 9;writer 0 20;knows 0 0;knows 0 1;knows 1 1;";
    private static final int[] SEEDS = {0, 1, -1, 12345, -987654321, Integer.MAX_VALUE, Integer.MIN_VALUE};

    private static final Edges edges = new Edges();

    public static void main(String[] args) {
        yearsOfOne();
        draws();
        spans();
        images();
        edges.edge(40, "0 NoSuchElementException, 1 IllegalArgumentException; NONE for others.", YearEdgesTest::status);
        edges.edge(40, "How many calls were refused", YearEdgesTest::notRefused);
        edges.edge(40, "(No IMAGE keeps it.)", YearEdgesTest::noImageKeepsIt);
        edges.edge(41, "0 IMAGES, 1 bytes of the TAPE, 2 WORKS that can be undone; NONE for others.",
                YearEdgesTest::count);
        edges.end("YearEdgesTest", 36, 37, 38, 39, 40, 41);
    }

    private static void yearsOfOne() {
        edges.edge(36, "YEARS of so many dawns (1 to 96), Q, M (0 to 16)", YearEdgesTest::yearNumbers);
        edges.edge(36, OTHER_WHAT, YearEdgesTest::yearWhat);
        edges.edge(36, "write (if it can be done)", YearEdgesTest::writtenIfItCan);
        edges.edge(36, "slip of this BID (if it can)", YearEdgesTest::slipsIfItCan);
        edges.edge(36, "rain of 1 (if it can)", YearEdgesTest::rainsIfItCan);
        edges.edge(36, "behind each 4th night (beyond 500, too)", YearEdgesTest::fourthNights);
        edges.edge(36, "Without WRITERS, BIDS or ROWS nothing is done, there is no DRAW.", YearEdgesTest::without);
        edges.edge(36, "3 BIDS (bits) that are remembered as told then.", YearEdgesTest::rememberedAsTold);
        edges.edge(36, "Asked, nothing stays changed.", YearEdgesTest::nothingStaysChanged);
    }

    private static void draws() {
        edges.edge(36, "DRAW by how many WRITERS there are", YearEdgesTest::drawOfWriter);
        edges.edge(36, "by how many BIDS", YearEdgesTest::drawOfBid);
        edges.edge(36, "by how many ROWS", YearEdgesTest::drawOfRow);
        edges.edge(36, "DRAW by 16 below Q", YearEdgesTest::drawBelowQ);
        edges.edge(36, "DRAW by 16 below M", YearEdgesTest::drawBelowM);
        edges.edge(36, "the SEED (32 bits) becomes itself times 1,103,515,245, and 12,345 (it wraps)",
                YearEdgesTest::manyDraws);
        edges.edge(36, "its bits 16 to 30, what is left of them.", YearEdgesTest::bitsOfSeed);
    }

    private static void spans() {
        edges.edge(37, "Of so many SEEDS (1 to 20; seed, seed and 1, ..)", YearEdgesTest::seeds);
        edges.edge(37, "YEARS of so many dawns (1 to 96), Q, M (0 to 16)", YearEdgesTest::spanNumbers);
        edges.edge(37, OTHER_WHAT, YearEdgesTest::spanWhat);
        edges.edge(37, "(IllegalArgumentException: no such BID, also for 0, 1.)", YearEdgesTest::spanOfNoBid);
        edges.edge(37, "0 the fewest BIDS that are remembered as told then, 1 the most, 2 by how many a BID is.",
                YearEdgesTest::fromNoneToAll);
    }

    private static void images() {
        edges.edge(38, "how many there are; -1: there are 3.", YearEdgesTest::threeImages);
        edges.edge(38, "An IMAGE of all that WORK changes, and of WORKS that can be undone", YearEdgesTest::imageOfAll);
        edges.edge(39, "All that is as in the latest IMAGE, which is gone: how many are left", YearEdgesTest::latestImage);
        edges.edge(39, "-1: there is none.", YearEdgesTest::noImage);
    }

    private static void years(ChalkWall x, int[] with, int[] due) {
        for (int what = 0; what < due.length; what++) {
            edges.due("years(" + with[0] + ", " + with[1] + ", " + with[2] + ", " + with[3] + ", " + what + ")",
                    due[what], x.years(with[0], with[1], with[2], with[3], what));
        }
    }

    private static void yearNumbers() {
        ChalkWall x = Check.withPort(ONE);
        edges.within(x, 1, 96, v -> x.years(1, v, 0, 0, 0));
        edges.within(x, 0, 16, v -> x.years(1, 1, v, 0, 0));
        edges.within(x, 0, 16, v -> x.years(1, 1, 0, v, 0));
        ChalkWall y = new ChalkWall();
        edges.within(y, 1, 96, v -> y.years(1, v, 16, 16, 3));
        for (int seed : SEEDS) {
            edges.due("any seed", 1, x.years(seed, 1, 0, 0, 0));
        }
        years(x, new int[] {9, 1, 0, 0}, new int[] {1, 0, 0, 1});
        years(x, new int[] {9, 96, 0, 16}, new int[] {96, 0, 96, 1});
    }

    private static void yearWhat() {
        ChalkWall x = Check.withPort(ONE);
        edges.within(x, 0, 3, v -> x.years(1, 1, 0, 0, v));
    }

    private static void writtenIfItCan() {
        years(Check.withPort("row 30;bid 0 10;writer 0 60;"), new int[] {5, 96, 0, 0}, new int[] {0, 0, 0, 1});
        years(Check.withPort("row 9;bid 0 10;writer 0 60;knows 0 0;"), new int[] {5, 96, 0, 0}, new int[] {0, 0, 0, 1});
        years(Check.withPort("row 30;bid 0 10;writer 0 9;knows 0 0;"), new int[] {5, 96, 0, 0}, new int[] {0, 0, 0, 1});
        years(Check.withPort("row 30;bid 0 10;writer 0 60;knows 0 0;"), new int[] {5, 96, 0, 0},
                new int[] {72, 0, 0, 1});
        years(Check.withPort("row 30;bid 0 10;writer 0 20;knows 0 0;"), new int[] {5, 96, 0, 16},
                new int[] {48, 0, 48, 1});
        ChalkWall x = Check.withPort("row 30;bid 0 1;writer 0 60;knows 0 0;");
        Check.work(x, "again 18[write 0 0 0;];");
        years(x, new int[] {5, 3, 0, 0}, new int[] {2, 0, 0, 1});
        years(x, new int[] {5, 4, 0, 0}, new int[] {2, 0, 0, 1});
        years(x, new int[] {5, 5, 0, 0}, new int[] {3, 0, 0, 1});
    }

    private static void slipsIfItCan() {
        years(Check.withPort(ONE), new int[] {5, 96, 0, 0}, new int[] {72, 0, 0, 1});
        years(Check.withPort(ONE), new int[] {5, 96, 16, 0}, new int[] {72, 1, 0, 0});
        years(Check.withPort(ONE), new int[] {5, 1, 16, 0}, new int[] {1, 1, 0, 0});
        String around = ONE + "kin 1 0;";
        years(Check.withPort(around), new int[] {5, 96, 16, 0}, new int[] {72, 96, 0, 1});
        years(Check.withPort(around), new int[] {5, 95, 16, 0}, new int[] {72, 95, 0, 0});
        years(Check.withPort("row 1;bid 0 9;writer 0 1;"), new int[] {5, 96, 16, 16}, new int[] {0, 0, 0, 1});
        // What can't be written slips all the same.
        years(Check.withPort("row 1;bid 0 9;kin 0 1;writer 0 1;"), new int[] {5, 1, 16, 16}, new int[] {0, 1, 0, 0});
    }

    private static void rainsIfItCan() {
        years(Check.withPort(ONE), new int[] {5, 96, 0, 16}, new int[] {96, 0, 96, 1});
        years(Check.withPort("row 9;bid 0 10;writer 0 60;knows 0 0;"), new int[] {5, 96, 0, 16},
                new int[] {0, 0, 0, 1});
        ChalkWall x = Check.withPort("row 1;row 30;bid 0 2;writer 1 60;knows 0 0;");
        edges.due("no line can stand on the lowest", 0, x.years(5, 96, 0, 16, 2));
        edges.due("lines are written above it", true, x.years(5, 96, 0, 16, 0) > 0);
        ChalkWall y = Check.withPort("row 2;bid 0 2;writer 0 60;knows 0 0;");
        Check.work(y, "write 0 0 0;");
        years(y, new int[] {5, 1, 0, 16}, new int[] {0, 0, 1, 1});
        years(y, new int[] {5, 1, 0, 0}, new int[] {0, 0, 0, 1});
    }

    private static void fourthNights() {
        ChalkWall x = Check.withPort(ONE);
        int[] written = {1, 2, 3, 3, 4, 5, 6, 6, 7};
        for (int dawns = 1; dawns <= 9; dawns++) {
            edges.due("written in " + dawns, written[dawns - 1], x.years(5, dawns, 0, 0, 0));
        }
        for (int i = 0; i < 3; i++) {
            Check.work(x, "again 30[again 30[night;];];");
        }
        edges.due("the last day", 500, x.told(3));
        for (int dawns = 1; dawns <= 9; dawns++) {
            edges.due("beyond 500, written in " + dawns, written[dawns - 1], x.years(5, dawns, 0, 0, 0));
        }
        edges.due("the day stays", 500, x.told(3));
        edges.due("WORK has no night more", 0, Check.work(x, "night;"));
    }

    private static void without() {
        int[] with = {9, 96, 16, 16};
        years(Check.withPort("bid 0 10;kin 0 1;writer 0 60;knows 0 0;"), with, new int[] {0, 0, 0, 1});
        years(Check.withPort("row 30;kin 0 1;writer 0 60;"), with, new int[] {0, 0, 0, 0});
        years(Check.withPort("row 30;bid 0 10;bid 1 1;kin 0 1;"), with, new int[] {0, 0, 0, 3});
        years(new ChalkWall(), with, new int[] {0, 0, 0, 0});
        ChalkWall x = Check.withPort("row 30;bid 0 10;bid 1 1;kin 0 1;");
        Check.work(x, "slip 0;");
        years(x, with, new int[] {0, 0, 0, 2});
    }

    private static void rememberedAsTold() {
        ChalkWall x = Check.withPort("row 1;" + Check.times("bid 0 1;", 8) + "kin 0 1;writer 0 1;");
        edges.due("all", 255, x.years(3, 96, 0, 0, 3));
        edges.due("all but one", 7, Integer.bitCount(x.years(3, 1, 16, 0, 3)));
        edges.due("as many as did not slip", 8 - x.years(3, 96, 16, 0, 1), Integer.bitCount(x.years(3, 96, 16, 0, 3)));
        Check.work(x, "slip 0;slip 7;");
        edges.due("by what was told, not by what was remembered", 126, x.years(3, 96, 0, 0, 3));
    }

    private static void asked(ChalkWall x, String call, Check.Call asking) {
        String before = Seen.wall(x) + x.count(1) + " " + x.fault();
        asking.answer();
        edges.same(call, before, Seen.wall(x) + x.count(1) + " " + x.fault());
    }

    private static ChalkWall busy() {
        ChalkWall x = Check.withPort(SMALL);
        Check.deeds(x, "0 1;");
        Check.law(x, "row*5+old");
        Check.work(x, "write 0 0 0;slip 0;write 1 1 0;");
        Check.work(x, "x");
        x.feed(1, 2, 3, 4, 5);
        return x;
    }

    private static void nothingStaysChanged() {
        ChalkWall x = busy();
        asked(x, "years", () -> x.years(7, 96, 16, 16, 0));
        asked(x, "span", () -> x.span(7, 20, 96, 16, 16, 0, 1));
        asked(x, "fits", () -> x.fits(3));
        asked(x, "fitted", () -> x.fitted(3, 1));
        asked(x, "can", () -> x.can(0, 0, 0) ? 1 : 0);
        ChalkWall y = busy();
        asked(y, "stood", () -> y.stood(0));
        asked(y, "ask", () -> y.ask(0));
        asked(y, "still", () -> y.still(1, 8, 12, 4, 0));
        asked(y, "crews", () -> y.crews(1, 1, 0));
        asked(y, "share", () -> y.share(0, 3, 20));
        ChalkWall z = busy();
        asked(z, "send", () -> z.send(3));
        asked(z, "idle", z::idle);
        asked(z, "would", () -> z.would(0, 1, 0, 0, 0, 0, 0, 0));
        asked(z, "image", z::image);
        asked(z, "a refused call", () -> Check.outcome(() -> z.told(10)).length());
    }

    /** What is drawn as the so-many-th by a number, told with wide numbers that do not wrap. */
    private static int drawn(int from, int which, int by) {
        long seed = from & 0xffffffffL;
        for (int i = 0; i < which; i++) {
            seed = (seed * 1103515245L + 12345L) % 4294967296L;
        }
        return (int) (seed / 65536 % 32768 % by);
    }

    private static void drawOfWriter() {
        for (int seed : SEEDS) {
            for (int writer = 0; writer < 6; writer++) {
                ChalkWall x = Check.withPort("row 5;bid 0 5;" + Check.times("writer 0 9;", 6) + "knows " + writer + " 0;");
                edges.due("writer " + writer + " by " + seed, drawn(seed, 1, 6) == writer ? 1 : 0,
                        x.years(seed, 1, 0, 0, 0));
            }
        }
    }

    private static void drawOfBid() {
        ChalkWall x = Check.withPort("row 5;" + Check.times("bid 0 5;", 8) + "kin 0 1;writer 0 9;");
        for (int seed : SEEDS) {
            edges.due("the bid that slips by " + seed, 255 - (1 << drawn(seed, 2, 8)), x.years(seed, 1, 16, 0, 3));
        }
        for (int bid = 0; bid < 8; bid++) {
            ChalkWall y = Check.withPort("row 5;" + Check.times("bid 0 5;", 8) + "writer 0 9;knows 0 " + bid + ";");
            for (int seed : SEEDS) {
                edges.due("bid " + bid + " by " + seed, drawn(seed, 2, 8) == bid ? 1 : 0, y.years(seed, 1, 0, 0, 0));
            }
        }
    }

    private static void drawOfRow() {
        for (int row = 0; row < 4; row++) {
            StringBuilder rows = new StringBuilder();
            for (int i = 0; i < 4; i++) {
                rows.append(i == row ? "row 5;" : "row 4;");
            }
            ChalkWall x = Check.withPort(rows + "bid 0 5;writer 3 9;knows 0 0;");
            for (int seed : SEEDS) {
                edges.due("row " + row + " by " + seed, drawn(seed, 3, 4) == row ? 1 : 0, x.years(seed, 1, 0, 0, 0));
            }
        }
    }

    private static void drawBelowQ() {
        ChalkWall x = Check.withPort(ONE);
        for (int seed : SEEDS) {
            int number = drawn(seed, 4, 16);
            edges.due("as much is not below, " + seed, 0, x.years(seed, 1, number, 0, 1));
            edges.due("one less is below, " + seed, 1, x.years(seed, 1, number + 1, 0, 1));
            edges.due("nothing is below 0, " + seed, 0, x.years(seed, 96, 0, 0, 1));
            edges.due("all is below 16, " + seed, 1, x.years(seed, 1, 16, 0, 1));
        }
    }

    private static void drawBelowM() {
        ChalkWall x = Check.withPort(ONE);
        for (int seed : SEEDS) {
            int number = drawn(seed, 5, 16);
            edges.due("as much is not below, " + seed, 0, x.years(seed, 1, 0, number, 2));
            edges.due("one less is below, " + seed, 1, x.years(seed, 1, 0, number + 1, 2));
            edges.due("nothing is below 0, " + seed, 0, x.years(seed, 96, 0, 0, 2));
            edges.due("all is below 16, " + seed, 1, x.years(seed, 1, 0, 16, 2));
        }
    }

    /** Seeds whose first SEED has all of its bits 16 to 30, with and without bit 31, or none of them. */
    private static void bitsOfSeed() {
        for (int first : new int[] {0x7fff0000, 0xffff0000, 0x7fffffff, -1, 0x80000000, 0x0000ffff, 0x8000ffff}) {
            int seed = ahead(first);
            edges.due("the seed ahead of " + first, first, seed * 1103515245 + 12345);
            int writer = (first >> 16 & 0x7fff) == 0 ? 0 : 32767 % 6;
            ChalkWall x = Check.withPort("row 5;bid 0 5;" + Check.times("writer 0 9;", 6) + "knows " + writer + " 0;");
            edges.due("writer " + writer + " by " + first, 1, x.years(seed, 1, 0, 0, 0));
        }
    }

    /** The SEED that becomes a told one: found bit by bit, since the factor is odd. */
    private static int ahead(int told) {
        int seed = 0;
        for (int bit = 0; bit < 32; bit++) {
            if ((seed * 1103515245 + 12345 ^ told) << 31 - bit != 0) {
                seed |= 1 << bit;
            }
        }
        return seed;
    }

    private static void manyDraws() {
        ChalkWall x = Check.withPort("row 10;bid 0 10;bid 0 10;kin 0 1;kin 1 0;writer 0 10;knows 0 0;");
        for (int seed : SEEDS) {
            int[] due = new int[4];
            int kept = 3;
            boolean stands = false;
            boolean chalk = true;
            for (int dawn = 0; dawn < 96; dawn++) {
                int bid = drawn(seed, 5 * dawn + 2, 2);
                if (bid == 0 && chalk && !stands) {
                    due[0]++;
                    stands = true;
                    chalk = false;
                }
                if (drawn(seed, 5 * dawn + 4, 16) < 7) {
                    due[1]++;
                    kept ^= 1 << bid;
                }
                if (drawn(seed, 5 * dawn + 5, 16) < 11 && stands) {
                    due[2]++;
                    stands = false;
                }
                if (dawn % 4 == 3) {
                    stands = false;
                    chalk = true;
                }
            }
            due[3] = kept;
            years(x, new int[] {seed, 96, 7, 11}, due);
        }
    }

    private static final String FOUR = "row 9;bid 0 1;bid 2 1;bid 4 1;bid 6 1;kin 0 1;kin 2 3;kin 4 5;kin 5 4;"
            + "writer 0 9;knows 0 0;";

    private static void seeds() {
        ChalkWall x = Check.withPort(FOUR);
        edges.within(x, 1, 20, v -> x.span(1, v, 1, 0, 0, 0, 0));
        for (int seed : new int[] {1, -19, Integer.MAX_VALUE, Integer.MAX_VALUE - 9, Integer.MIN_VALUE}) {
            for (int many : new int[] {1, 2, 20}) {
                int fewest = 9;
                int most = 0;
                int by = 0;
                for (int i = 0; i < many; i++) {
                    // Behind the greatest number comes the least one.
                    int kept = x.years((int) ((long) seed + i), 6, 8, 0, 3);
                    fewest = Math.min(fewest, Integer.bitCount(kept));
                    most = Math.max(most, Integer.bitCount(kept));
                    by += kept >> 2 & 1;
                }
                edges.due("fewest of " + many + " from " + seed, fewest, x.span(seed, many, 6, 8, 0, 0, 0));
                edges.due("most of " + many + " from " + seed, most, x.span(seed, many, 6, 8, 0, 1, 0));
                edges.due("by how many of " + many + " from " + seed, by, x.span(seed, many, 6, 8, 0, 2, 2));
            }
        }
    }

    private static void spanNumbers() {
        ChalkWall x = Check.withPort(FOUR);
        edges.within(x, 1, 96, v -> x.span(1, 1, v, 0, 0, 0, 0));
        edges.within(x, 0, 16, v -> x.span(1, 1, 1, v, 0, 0, 0));
        edges.within(x, 0, 16, v -> x.span(1, 1, 1, 0, v, 0, 0));
        edges.due("the most of all", 20, x.span(Integer.MIN_VALUE, 20, 96, 16, 16, 2, 3));
    }

    private static void spanWhat() {
        ChalkWall x = Check.withPort(FOUR);
        edges.within(x, 0, 2, v -> x.span(1, 1, 1, 0, 0, v, 0));
    }

    private static void spanOfNoBid() {
        ChalkWall x = Check.withPort(FOUR);
        ChalkWall none = new ChalkWall();
        for (int what = 0; what <= 2; what++) {
            int asked = what;
            edges.within(x, 0, 3, v -> x.span(1, 1, 1, 0, 0, asked, v));
            edges.illegal("without bids", () -> none.span(1, 1, 1, 0, 0, asked, 0));
            edges.illegal("none", () -> none.span(1, 1, 1, 0, 0, asked, -1));
        }
        edges.due("never as no such", 0, x.status(0) + none.status(0));
    }

    private static void fromNoneToAll() {
        ChalkWall x = Check.withPort("row 9;" + Check.times("bid 0 1;", 8) + "kin 0 1;writer 0 9;knows 0 0;");
        edges.due("all by all", 8, x.span(4, 20, 96, 0, 0, 0, 0));
        edges.due("all by all", 8, x.span(4, 20, 96, 0, 0, 1, 0));
        edges.due("by all", 20, x.span(4, 20, 96, 0, 0, 2, 7));
        edges.due("all but one", 7, x.span(4, 20, 1, 16, 0, 0, 0));
        edges.due("all but one", 7, x.span(4, 20, 1, 16, 0, 1, 0));
        Check.work(x, "again 1[slip 0;slip 1;slip 2;slip 3;slip 4;slip 5;slip 6;slip 7;];");
        edges.due("none by none", 0, x.span(4, 20, 96, 16, 16, 0, 0));
        edges.due("none by none", 0, x.span(4, 20, 96, 16, 16, 1, 0));
        edges.due("by none", 0, x.span(4, 20, 96, 16, 16, 2, 7));
        ChalkWall y = Check.withPort("bid 0 1;bid 1 1;kin 0 1;");
        Check.work(y, "slip 0;");
        edges.due("without rows", 1, y.span(1, 20, 96, 16, 0, 0, 0));
        edges.due("without rows", 1, y.span(1, 20, 96, 16, 0, 1, 0));
        edges.due("without rows", 20, y.span(1, 20, 96, 16, 0, 2, 1));
        edges.due("without rows", 0, y.span(1, 20, 96, 16, 0, 2, 0));
    }

    private static void threeImages() {
        ChalkWall x = Check.withPort(ONE);
        for (int many = 1; many <= 3; many++) {
            edges.due("image " + many, many, x.image());
            edges.due("images", many, x.count(0));
            Check.work(x, "night;");
        }
        edges.due("a fourth", -1, x.image());
        edges.due("three stay", 3, x.count(0));
        edges.due("the latest is as it was", 2, x.restore());
        edges.due("the third's day", 2, x.told(3));
        edges.due("there is room for one", 3, x.image());
        edges.due("for one alone", -1, x.image());
        x.port(0);
        edges.due("a port has none", 0, x.count(0));
        edges.due("there is room for three", 1, x.image());
        edges.due("a new one's image", 1, new ChalkWall().image());
    }

    private static void imageOfAll() {
        ChalkWall x = Check.withPort(SMALL);
        Check.work(x, "write 0 0 0;slip 0;");
        Check.work(x, "write 1 1 0;");
        String then = Seen.wall(x);
        edges.due("image", 1, x.image());
        Check.law(x, "77");
        Check.deeds(x, "1 1;2 0;");
        x.undo();
        x.undo();
        Check.work(x, "night;night;slip 0;slip 0;write 0 1 0;");
        Check.work(x, "night;");
        edges.due("restored", 0, x.restore());
        edges.same("all that WORK changes", then, Seen.wall(x));
        edges.due("works that can be undone", 2, x.count(2));
        edges.due("the law is none of it", 77, x.would(0, 1, 0, 0, 0, 0, 0, 0));
        edges.due("the deeds are none of it", 2, x.told(7));
        edges.due("undone", 1, x.undo());
        edges.due("as ahead of the second work", 1, x.told(4));
        edges.due("as ahead of the second work", 0, x.told(3));
        edges.due("undone", 0, x.undo());
        edges.due("as ahead of the first work", 0, x.told(4));
        edges.due("as told", 0, x.bid(0, 0));
    }

    private static void latestImage() {
        ChalkWall x = Check.withPort(SMALL);
        String[] then = new String[3];
        String[] works = {"write 0 0 0;", "night;slip 1;", "write 1 1 0;slip 0;"};
        for (int i = 0; i < 3; i++) {
            Check.work(x, works[i]);
            then[i] = Seen.wall(x);
            x.image();
        }
        Check.work(x, "night;night;");
        for (int i = 2; i >= 0; i--) {
            edges.due("left", i, x.restore());
            edges.same("as in image " + i, then[i], Seen.wall(x));
            edges.due("works then", i + 1, x.count(2));
        }
        edges.due("there is none", -1, x.restore());
        ChalkWall full = new ChalkWall();
        for (int i = 0; i < 16; i++) {
            full.work(0);
        }
        full.image();
        full.undo();
        edges.due("room for a work", 0, full.work(0));
        full.undo();
        full.restore();
        edges.due("sixteen again", -20, full.work(0));
    }

    private static void noImage() {
        ChalkWall x = new ChalkWall();
        edges.due("a new one", -1, x.restore());
        Check.port(x, SMALL);
        Check.work(x, "write 0 0 0;slip 0;slip 0;");
        String before = Seen.all(x);
        edges.due("a work is no image", -1, x.restore());
        edges.stays("nothing is changed", before, x);
        x.image();
        edges.due("an image", 0, x.restore());
        edges.due("it is gone", -1, x.restore());
    }

    private static void status() {
        ChalkWall x = new ChalkWall();
        edges.due("none", 0, x.status(0));
        edges.due("none", 0, x.status(1));
        for (int what : new int[] {-1, 2, 3, Integer.MIN_VALUE, Integer.MAX_VALUE}) {
            edges.due("others", -1, x.status(what));
        }
        edges.due("that is not refused", 0, x.status(1));
        edges.noSuch("a row", () -> x.row(0, 9));
        edges.due("one reason alone", 1, x.status(0));
        edges.due("one reason alone", 0, x.status(1));
        edges.illegal("a what", () -> x.told(10));
        edges.due("one reason alone", 1, x.status(0));
        edges.due("one reason alone", 1, x.status(1));
        for (int i = 0; i < 200; i++) {
            edges.noSuch("a bid", () -> x.bid(0, 0));
            edges.illegal("an act", () -> x.kin(10));
        }
        edges.due("many", 201, x.status(0));
        edges.due("many", 201, x.status(1));
        Check.port(x, SMALL);
        edges.due("a port keeps them", 201, x.status(0));
        edges.due("a port keeps them", 201, x.status(1));
    }

    private static void notRefused() {
        ChalkWall x = new ChalkWall();
        edges.due("a fault", -9, Check.port(x, "x"));
        edges.due("a fault", -9, Check.law(x, ""));
        edges.due("no work", -1, x.undo());
        edges.due("no image", -1, x.restore());
        edges.due("a step", 0, Check.work(x, "rain 1;"));
        edges.due("a step refused", 1, x.told(8));
        for (int i = 0; i < 4; i++) {
            x.image();
        }
        for (int i = 0; i < 31; i++) {
            x.feed(0, 0, 0, 0, 0);
        }
        for (int i = 0; i < 17; i++) {
            x.work(0);
        }
        x.count(9);
        x.status(9);
        edges.due("no call was", 0, x.status(0));
        edges.due("no call was", 0, x.status(1));
    }

    private static void noImageKeepsIt() {
        ChalkWall x = Check.withPort(ONE);
        x.image();
        edges.noSuch("a writer", () -> x.loud(1));
        edges.illegal("bits", () -> x.send(2));
        Check.work(x, "night;");
        edges.due("restored", 0, x.restore());
        edges.due("behind restore", 1, x.status(0));
        edges.due("behind restore", 1, x.status(1));
        Check.work(x, "night;");
        edges.noSuch("a writer", () -> x.loud(1));
        edges.due("undone", 0, x.undo());
        edges.due("behind undo", 2, x.status(0));
        edges.due("behind undo", 1, x.status(1));
    }

    private static void count() {
        ChalkWall x = new ChalkWall();
        for (int what : new int[] {-1, 3, 4, Integer.MIN_VALUE, Integer.MAX_VALUE}) {
            edges.due("others", -1, x.count(what));
        }
        edges.due("no image", 0, x.count(0));
        edges.due("no byte", 0, x.count(1));
        edges.due("no work", 0, x.count(2));
        for (int i = 0; i < 31; i++) {
            x.feed(0, 0, 0, 0, 0);
        }
        edges.due("a full tape", 600, x.count(1));
        for (int i = 0; i < 4; i++) {
            x.image();
        }
        edges.due("three images", 3, x.count(0));
        edges.due("the tape stays", 600, x.count(1));
        for (int i = 0; i < 17; i++) {
            x.work(0);
        }
        edges.due("sixteen works", 16, x.count(2));
        edges.due("no byte", 0, x.count(1));
        x.feed(0, 0, 0, 0, 0);
        edges.due("restored", 2, x.restore());
        edges.due("no image keeps the tape", 20, x.count(1));
        edges.due("the image's works", 0, x.count(2));
        edges.due("that is not refused", 0, x.status(0) + x.status(1));
    }
}
