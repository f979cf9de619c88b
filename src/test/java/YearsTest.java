/** Promises 36 to 41: YEARS by SEEDS, IMAGES, what was refused, counts. */
public final class YearsTest {
    private static final String PORT = "row 30;bid 0 10;kin 0 1;writer 0 60;knows 0 0;";

    private static final Check check = new Check();

    public static void main(String[] args) {
        years();
        yearsByHand();
        yearsFromNow();
        yearsWithout();
        yearsAtTheEdges();
        span();
        image();
        restore();
        restoreWorks();
        status();
        count();
        check.end("YearsTest");
    }

    private static void years(ChalkWall x, int[] with, int[] due) {
        for (int what = 0; what < 4; what++) {
            check.due("36: years " + with[0] + ", " + with[1] + ", " + with[2] + ", " + with[3] + ", " + what,
                    due[what], x.years(with[0], with[1], with[2], with[3], what));
        }
    }

    private static void years() {
        ChalkWall x = Check.withPort(PORT);
        years(x, new int[] {9, 7, 0, 0}, new int[] {6, 0, 0, 1});
        years(x, new int[] {9, 4, 0, 0}, new int[] {3, 0, 0, 1});
        years(x, new int[] {9, 5, 0, 0}, new int[] {4, 0, 0, 1});
        years(x, new int[] {9, 7, 0, 16}, new int[] {7, 0, 7, 1});
        years(x, new int[] {9, 7, 16, 0}, new int[] {6, 1, 0, 0});
        years(x, new int[] {9, 96, 16, 16}, new int[] {96, 1, 96, 0});
        years(x, new int[] {9, 1, 0, 0}, new int[] {1, 0, 0, 1});
        check.due("36: nothing stays changed", 0, x.told(9));
        check.due("36: nothing stays changed", 0, x.bid(0, 0));
        check.due("36: nothing stays changed", 0, x.told(3));
        check.due("36: nothing stays changed", 60, x.writer(0, 2));
    }

    /** The SEED goes by its law over 32 bits; each dawn takes five DRAWS, whatever is done. */
    private static void yearsByHand() {
        ChalkWall x = Check.withPort("row 8;row 5;row 3;bid 0 2;bid 2 3;kin 0 1;kin 1 0;kin 2 3;"
                + "writer 2 9;writer 1 7;knows 0 0;knows 1 1;knows 1 0;");
        for (int first : new int[] {0, 1, 5, -7, 123456789, Integer.MIN_VALUE}) {
            long seed = first & 0xffffffffL;
            int[] room = {8, 5, 3};
            int[] chalk = {9, 7};
            int[] acts = {0, 2};
            int[] due = new int[4];
            for (int dawn = 1; dawn <= 10; dawn++) {
                long[] drawn = new long[5];
                int[] by = {2, 2, 3, 16, 16};
                for (int i = 0; i < 5; i++) {
                    seed = (seed * 1103515245L + 12345L) % 4294967296L;
                    drawn[i] = seed / 65536 % 32768 % by[i];
                }
                int w = (int) drawn[0];
                int k = (int) drawn[1];
                int r = (int) drawn[2];
                int letters = 2 + k;
                if ((w == 1 || k == 0) && r <= 2 - w && room[r] >= letters && chalk[w] >= letters) {
                    room[r] -= letters;
                    chalk[w] -= letters;
                    due[0]++;
                }
                if (drawn[3] < 9 && acts[k] != 3) {
                    acts[k] = new int[] {1, 0, 3}[acts[k]];
                    due[1]++;
                }
                if (drawn[4] < 5 && room[0] < 8) {
                    room[0] = 8;
                    due[2]++;
                }
                if (dawn % 4 == 0) {
                    room = new int[] {8, 5, 3};
                    chalk = new int[] {9, 7};
                }
            }
            due[3] = (acts[0] == 0 ? 1 : 0) + (acts[1] == 2 ? 2 : 0);
            years(x, new int[] {first, 10, 9, 5}, due);
        }
    }

    private static void yearsFromNow() {
        ChalkWall x = Check.withPort(PORT);
        Check.work(x, "write 0 0 0;write 0 0 0;");
        years(x, new int[] {9, 4, 0, 0}, new int[] {1, 0, 0, 1});
        years(x, new int[] {9, 7, 0, 0}, new int[] {4, 0, 0, 1});
        Check.work(x, "slip 0;");
        years(x, new int[] {9, 7, 16, 0}, new int[] {4, 0, 0, 0});
        for (int i = 0; i < 3; i++) {
            Check.work(x, "again 30[again 30[night;];];");
        }
        check.due("36: day 500", 500, x.told(3));
        years(x, new int[] {9, 7, 0, 0}, new int[] {6, 0, 0, 0});
        check.due("36: day 500", 500, x.told(3));
    }

    private static void yearsWithout() {
        int[] with = {9, 50, 16, 16};
        years(Check.withPort("bid 0 10;kin 0 1;writer 0 60;knows 0 0;"), with, new int[] {0, 0, 0, 1});
        years(Check.withPort("row 30;kin 0 1;writer 0 60;"), with, new int[] {0, 0, 0, 0});
        ChalkWall x = Check.withPort("row 30;bid 0 10;bid 1 1;kin 0 1;");
        years(x, with, new int[] {0, 0, 0, 3});
        Check.work(x, "slip 0;");
        years(x, with, new int[] {0, 0, 0, 2});
    }

    private static void yearsAtTheEdges() {
        ChalkWall x = Check.withPort(PORT);
        check.illegal("36: dawns", () -> x.years(1, 0, 0, 0, 0));
        check.illegal("36: dawns", () -> x.years(1, 97, 0, 0, 0));
        check.illegal("36: q", () -> x.years(1, 1, -1, 0, 0));
        check.illegal("36: q", () -> x.years(1, 1, 17, 0, 0));
        check.illegal("36: m", () -> x.years(1, 1, 0, -1, 0));
        check.illegal("36: m", () -> x.years(1, 1, 0, 17, 0));
        check.illegal("36: another what", () -> x.years(1, 1, 0, 0, -1));
        check.illegal("36: another what", () -> x.years(1, 1, 0, 0, 4));
        check.illegal("37: seeds", () -> x.span(1, 0, 1, 0, 0, 0, 0));
        check.illegal("37: seeds", () -> x.span(1, 21, 1, 0, 0, 0, 0));
        check.illegal("37: dawns", () -> x.span(1, 1, 0, 0, 0, 0, 0));
        check.illegal("37: dawns", () -> x.span(1, 1, 97, 0, 0, 0, 0));
        check.illegal("37: q", () -> x.span(1, 1, 1, 17, 0, 0, 0));
        check.illegal("37: m", () -> x.span(1, 1, 1, 0, 17, 0, 0));
        check.illegal("37: another what", () -> x.span(1, 1, 1, 0, 0, 3, 0));
        check.illegal("37: another what", () -> x.span(1, 1, 1, 0, 0, -1, 0));
        for (int what = 0; what < 3; what++) {
            int asked = what;
            check.illegal("37: no bid", () -> x.span(1, 1, 1, 0, 0, asked, 1));
            check.illegal("37: no bid", () -> x.span(1, 1, 1, 0, 0, asked, -1));
        }
    }

    private static void span() {
        ChalkWall x = Check.withPort("row 9;bid 0 1;bid 2 1;bid 4 1;bid 6 1;kin 0 1;kin 2 3;kin 4 5;kin 5 4;"
                + "writer 0 9;knows 0 0;");
        for (int seed : new int[] {3, -2, Integer.MAX_VALUE - 3}) {
            int fewest = 99;
            int most = 0;
            int[] by = new int[4];
            for (int i = 0; i < 20; i++) {
                int kept = x.years(seed + i, 6, 8, 0, 3);
                fewest = Math.min(fewest, Integer.bitCount(kept));
                most = Math.max(most, Integer.bitCount(kept));
                for (int bid = 0; bid < 4; bid++) {
                    by[bid] += kept >> bid & 1;
                }
            }
            check.due("37: fewest", fewest, x.span(seed, 20, 6, 8, 0, 0, 0));
            check.due("37: most", most, x.span(seed, 20, 6, 8, 0, 1, 3));
            for (int bid = 0; bid < 4; bid++) {
                check.due("37: by how many", by[bid], x.span(seed, 20, 6, 8, 0, 2, bid));
            }
            check.due("37: the seeds tell something", true, fewest < most);
        }
        check.due("37: one", Integer.bitCount(x.years(77, 9, 8, 0, 3)), x.span(77, 1, 9, 8, 0, 0, 0));
        check.due("37: nothing stays changed", 0, x.told(9));
        ChalkWall y = Check.withPort("bid 0 1;bid 1 1;kin 0 1;");
        Check.work(y, "slip 0;");
        check.due("37: nothing is done", 1, y.span(1, 9, 9, 16, 0, 0, 0));
        check.due("37: nothing is done", 9, y.span(1, 9, 9, 16, 0, 2, 1));
        check.due("37: nothing is done", 0, y.span(1, 9, 9, 16, 0, 2, 0));
    }

    private static void image() {
        ChalkWall x = Check.withPort(PORT);
        check.due("38: one", 1, x.image());
        check.due("38: two", 2, x.image());
        check.due("38: three", 3, x.image());
        check.due("38: no more", -1, x.image());
        check.due("38: three", 3, x.count(0));
        check.due("39: two are left", 2, x.restore());
        check.due("38: three", 3, x.image());
    }

    private static void restore() {
        ChalkWall x = Check.withPort(PORT);
        Check.work(x, "write 0 0 0;");
        x.image();
        Check.work(x, "slip 0;night;night;");
        x.image();
        Check.work(x, "write 0 0 0;write 0 0 0;rain 4;rain 4;");
        Check.law(x, "8");
        Check.deeds(x, "1 1;");
        check.due("39: the latest", 1, x.restore());
        check.due("39: day", 2, x.told(3));
        check.due("39: act", 1, x.bid(0, 0));
        check.due("39: slips", 1, x.bid(0, 3));
        check.due("39: written", 1, x.told(9));
        check.due("39: lines", 0, x.told(4));
        check.due("39: chalk", 60, x.writer(0, 2));
        check.due("39: refused behind it", 0, x.told(8));
        check.due("39: the law stays", 8, x.would(0, 1, 0, 0, 0, 0, 0, 0));
        check.due("39: the deeds stay", 1, x.told(7));
        check.due("39: works", 2, x.count(2));
        check.due("39: the one ahead", 0, x.restore());
        check.due("39: day", 0, x.told(3));
        check.due("39: the line", 0, x.line(0, 0));
        check.due("39: chalk", 50, x.writer(0, 2));
        check.due("39: works", 1, x.count(2));
        Check.work(x, "rain 1;rain 1;");
        check.due("39: there is none", -1, x.restore());
        check.due("39: nothing is changed then", 0, x.told(4));
        check.due("39: nothing is changed then", 1, x.told(8));
    }

    private static void restoreWorks() {
        ChalkWall x = Check.withPort("bid 0 1;kin 0 1;kin 1 2;kin 2 3;kin 3 4;kin 4 5;");
        Check.work(x, "slip 0;");
        Check.work(x, "slip 0;");
        x.image();
        check.due("39: undone", 1, x.undo());
        check.due("39: undone", 0, x.undo());
        Check.work(x, "slip 0;slip 0;slip 0;slip 0;");
        check.due("39: another way", 4, x.bid(0, 0));
        check.due("39: back", 0, x.restore());
        check.due("39: as it was", 2, x.bid(0, 0));
        check.due("39: works that can be undone", 2, x.count(2));
        check.due("39: undone", 1, x.undo());
        check.due("39: as it was", 1, x.bid(0, 0));
        check.due("39: undone", 0, x.undo());
        check.due("39: as it was", 0, x.bid(0, 0));
        for (int i = 0; i < 16; i++) {
            x.work(0);
        }
        x.image();
        x.undo();
        check.due("39: room", 15, x.count(2));
        x.restore();
        check.due("39: sixteen again", -20, x.work(0));
    }

    private static void status() {
        ChalkWall x = Check.withPort(PORT);
        check.due("40: none", 0, x.status(0));
        check.due("40: none", 0, x.status(1));
        x.image();
        check.noSuch("40: a refusal", () -> x.row(9, 9));
        check.noSuch("40: a refusal", () -> x.loud(9));
        check.illegal("40: a refusal", () -> x.told(99));
        check.illegal("40: a refusal", () -> x.port(1));
        check.illegal("40: a refusal", () -> x.span(1, 1, 1, 0, 0, 0, 9));
        Check.port(x, "row 0;");
        x.undo();
        x.restore();
        x.restore();
        check.due("40: no image keeps it", 2, x.status(0));
        check.due("40: no image keeps it", 3, x.status(1));
        check.due("40: others", -1, x.status(2));
        check.due("40: others", -1, x.status(-1));
        Check.port(x, PORT);
        check.due("40: no port, either", 2, x.status(0));
        check.due("40: no port, either", 3, x.status(1));
    }

    private static void count() {
        ChalkWall x = Check.withPort(PORT);
        Check.work(x, "slip 0;");
        Check.work(x, "night;");
        x.image();
        x.feed(1, 2, 3, 4, 5);
        x.feed(1, 2, 3, 4, 5);
        check.due("41: images", 1, x.count(0));
        check.due("41: bytes", 40, x.count(1));
        check.due("41: works", 2, x.count(2));
        check.due("41: others", -1, x.count(3));
        check.due("41: others", -1, x.count(-1));
        x.undo();
        x.restore();
        check.due("41: the tape stays", 40, x.count(1));
        check.due("41: images", 0, x.count(0));
    }
}
