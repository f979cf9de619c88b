/** Promises 9 to 18 and 30 to 35: what is told, what stands, what is in force. */
public final class WallTest {
    private static final String PORT = "row 10;row 6;row 12;bid 0 4;bid 3 5;bid 1 6;bid 8 2;"
            + "kin 0 1;kin 1 2;kin 2 0;kin 3 4;writer 1 9;writer 2 20;"
            + "knows 0 0;knows 0 1;knows 1 1;knows 1 2;knows 1 3;";
    // Lines: BID 0 on ROW 1 by 0, BID 2 on ROW 0 by 1, BID 1 on ROW 2 by 1, BID 0 (as ACT 1) on ROW 0 by 0.
    private static final String WORK = "write 0 0 1;write 1 2 0;write 1 1 2;slip 0;write 0 0 0;";

    private static final Check check = new Check();

    public static void main(String[] args) {
        told();
        row();
        bid();
        writer();
        line();
        kin();
        would();
        force();
        forceOfAlike();
        torn();
        can();
        above();
        mightiest();
        missing();
        idle();
        ends();
        loud();
        check.end("WallTest");
    }

    private static ChalkWall written() {
        ChalkWall x = Check.withPort(PORT);
        check.due("the work is done", 5, Check.work(x, WORK));
        return x;
    }

    private static void told() {
        ChalkWall x = written();
        Check.work(x, "slip 3;");
        Check.deeds(x, "1 0;2 1;");
        int[] due = {3, 4, 2, 0, 4, 19, 1 | 8, 2, 1, 4};
        for (int what = 0; what < due.length; what++) {
            check.due("9: told(" + what + ")", due[what], x.told(what));
        }
        check.illegal("9: below", () -> x.told(-1));
        check.illegal("9: above", () -> x.told(10));
        Check.work(x, "rain 1;");
        check.due("9: lines by now", 4, x.told(9));
        check.due("9: lines that stand", 2, x.told(4));
        check.due("9: letters that stand", 9, x.told(5));
        Check.work(x, "night;write 1 1 2;");
        check.due("9: lines by now", 5, x.told(9));
        check.due("9: day", 1, x.told(3));
        check.due("9: in force", 8, x.told(6));
        x.image();
        Check.work(x, "slip 3;slip 3;");
        check.due("9: refused", 2, x.told(8));
        check.due("9: no image left", 0, x.restore());
        check.due("9: refused behind restore", 0, x.told(8));
    }

    private static void row() {
        ChalkWall x = written();
        int[][] due = {{10, 0, 2, 2}, {6, 2, 1, 1}, {12, 7, 1, 8}};
        for (int row = 0; row < 3; row++) {
            for (int what = 0; what < 4; what++) {
                check.due("10: row(" + row + ", " + what + ")", due[row][what], x.row(row, what));
            }
        }
        check.noSuch("10: no row", () -> x.row(3, 0));
        check.noSuch("10: no row, ahead of others", () -> x.row(-1, 9));
        check.illegal("10: another what", () -> x.row(0, 4));
        check.illegal("10: another what", () -> x.row(0, -1));
    }

    private static void bid() {
        ChalkWall x = written();
        int[][] due = {{1, 4, 0, 1, 1, 2}, {3, 5, 3, 0, 3, 1}, {1, 6, 1, 0, 2, 1}, {8, 2, 8, 0, 2, 0}};
        for (int bid = 0; bid < 4; bid++) {
            for (int what = 0; what < 6; what++) {
                check.due("11: bid(" + bid + ", " + what + ")", due[bid][what], x.bid(bid, what));
            }
        }
        Check.work(x, "slip 0;slip 0;");
        check.due("11: round to what was told", 0, x.bid(0, 0));
        check.due("11: three slips", 3, x.bid(0, 3));
        check.noSuch("11: no bid", () -> x.bid(4, 0));
        check.noSuch("11: no bid, ahead of others", () -> x.bid(-1, 9));
        check.illegal("11: another what", () -> x.bid(0, 6));
        check.illegal("11: another what", () -> x.bid(0, -1));
    }

    private static void writer() {
        ChalkWall x = written();
        int[][] due = {{1, 9, 1, 3, 2}, {2, 20, 9, 14, 2}};
        for (int writer = 0; writer < 2; writer++) {
            for (int what = 0; what < 5; what++) {
                check.due("12: writer(" + writer + ", " + what + ")", due[writer][what], x.writer(writer, what));
            }
        }
        check.noSuch("12: no writer", () -> x.writer(2, 0));
        check.noSuch("12: no writer, ahead of others", () -> x.writer(-1, 9));
        check.illegal("12: another what", () -> x.writer(0, 5));
        check.illegal("12: another what", () -> x.writer(0, -1));
    }

    private static void line() {
        ChalkWall x = written();
        int[][] due = {{0, 0, 1, 0, 14}, {2, 1, 0, 1, 6}, {1, 3, 2, 1, 25}, {0, 1, 0, 0, 4}};
        lines(x, due);
        check.noSuch("13: no line", () -> x.line(4, 0));
        check.noSuch("13: no line, ahead of others", () -> x.line(-1, 9));
        check.illegal("13: another what", () -> x.line(0, 5));
        check.illegal("13: another what", () -> x.line(0, -1));
        // Each of the law's words at a digit of its own.
        Check.law(x, "row*100+letters*10+place");
        lines(x, new int[][] {{0, 0, 1, 0, 140}, {2, 1, 0, 1, 60}, {1, 3, 2, 1, 250}, {0, 1, 0, 0, 41}});
        Check.law(x, "writer*100*100+act*100*10+day*100+reach*10+old");
        lines(x, new int[][] {{0, 0, 1, 0, 10}, {2, 1, 0, 1, 11021}, {1, 3, 2, 1, 13022}, {0, 1, 0, 0, 1013}});
        Check.work(x, "rain 1;");
        lines(x, new int[][] {{0, 0, 1, 0, 10}, {1, 3, 2, 1, 13021}});
        check.noSuch("13: gone by rain", () -> x.line(2, 0));
        Check.work(x, "night;night;write 1 3 0;");
        lines(x, new int[][] {{3, 8, 0, 1, 18220}});
    }

    private static void lines(ChalkWall x, int[][] due) {
        check.due("13: how many", due.length, x.told(4));
        for (int line = 0; line < due.length; line++) {
            for (int what = 0; what < 5; what++) {
                check.due("13: line(" + line + ", " + what + ")", due[line][what], x.line(line, what));
            }
        }
    }

    private static void kin() {
        ChalkWall x = Check.withPort(PORT);
        int[] due = {1, 2, 0, 4, -1, -1, -1, -1, -1, -1};
        for (int act = 0; act < 10; act++) {
            check.due("14: kin(" + act + ")", due[act], x.kin(act));
        }
        check.illegal("14: below", () -> x.kin(-1));
        check.illegal("14: above", () -> x.kin(10));
    }

    private static void would() {
        ChalkWall x = Check.withPort(PORT);
        check.due("15: without a law", 25, x.would(2, 5, 9, 4, 9, 9, 3, 9));
        Check.law(x, "row*7-letters%4+place*3+writer-act/2+day-reach+old*least[row,2]");
        check.due("15: by the law", 21 - 1 + 6 + 5 - 3 + 4 - 1 + 12, x.would(3, 9, 2, 5, 7, 4, 1, 6));
        int[] most = {3, 15, 19, 5, 9, 500, 3, 19};
        int[] least = {0, 1, 0, 0, 0, 0, 0, 0};
        check.due("15: the most", 21 - 3 + 57 + 5 - 4 + 500 - 3 + 38, would(x, most));
        check.due("15: the least", -1, would(x, least));
        for (int i = 0; i < 8; i++) {
            int[] above = most.clone();
            above[i]++;
            check.illegal("15: above, number " + i, () -> would(x, above));
            int[] below = least.clone();
            below[i]--;
            check.illegal("15: below, number " + i, () -> would(x, below));
        }
    }

    private static int would(ChalkWall x, int[] v) {
        return x.would(v[0], v[1], v[2], v[3], v[4], v[5], v[6], v[7]);
    }

    private static void force() {
        ChalkWall x = written();
        int[] acts = {0, 3, -1, -1, -1};
        int[] lines = {0, 2, -1, -1, -1};
        for (int matter = 0; matter < 5; matter++) {
            check.due("16: act in " + matter, acts[matter], x.force(matter, 0));
            check.due("16: line in " + matter, lines[matter], x.force(matter, 1));
        }
        Check.law(x, "old");
        check.due("16: the last has most", 1, x.force(0, 0));
        check.due("16: the last has most", 3, x.force(0, 1));
        Check.law(x, "0-old");
        check.due("16: not above 0", -1, x.force(0, 0));
        check.due("16: not above 0", -1, x.force(1, 1));
        check.due("16: not above 0", 0, x.told(6));
        Check.law(x, "2-old");
        check.due("16: 1 is above 0", 0, x.force(0, 1));
        check.due("16: 0 is not", -1, x.force(1, 0));
        check.illegal("16: no matter", () -> x.force(5, 0));
        check.illegal("16: no matter", () -> x.force(-1, 0));
        check.illegal("16: another what", () -> x.force(0, 2));
        check.illegal("16: another what", () -> x.force(0, -1));
    }

    private static void forceOfAlike() {
        ChalkWall x = Check.withPort("row 5;row 5;bid 4 1;bid 5 1;writer 1 60;knows 0 0;knows 0 1;");
        Check.work(x, "write 0 1 0;write 0 0 0;");
        check.due("16: of alike ones the first", 5, x.force(2, 0));
        check.due("16: of alike ones the first", 0, x.force(2, 1));
        Check.work(x, "write 0 0 1;write 0 1 1;");
        check.due("16: of alike ones the first", 4, x.force(2, 0));
        check.due("16: of alike ones the first", 2, x.force(2, 1));
        check.due("16: told", 16, x.told(6));
        Check.work(x, "night;");
        check.due("16: white", -1, x.force(2, 0));
    }

    private static void torn() {
        ChalkWall x = written();
        check.due("17: both acts of 0", 1, x.torn());
        Check.law(x, "0-1");
        check.due("17: without force, too", 1, x.torn());
        Check.work(x, "rain 1;");
        check.due("17: one of both", 0, x.torn());
        ChalkWall y = Check.withPort("row 30;bid 9 1;bid 8 1;bid 1 1;bid 2 1;writer 3 60;"
                + "knows 0 0;knows 0 1;knows 0 2;knows 0 3;");
        Check.work(y, "write 0 0 0;write 0 2 0;write 0 3 0;");
        check.due("17: 1 and 2 are of two matters", 0, y.torn());
        Check.work(y, "write 0 1 0;");
        check.due("17: both acts of 4", 16, y.torn());
    }

    private static void can() {
        ChalkWall x = Check.withPort("row 3;row 30;row 1;bid 2 3;bid 4 1;writer 1 20;writer 2 60;"
                + "knows 0 0;knows 0 1;knows 1 1;");
        check.due("18: he can", true, x.can(0, 0, 0));
        check.due("18: not remembered", false, x.can(1, 0, 0));
        check.due("18: his reach", true, x.can(0, 1, 1));
        check.due("18: above his reach", false, x.can(0, 1, 2));
        Check.work(x, "write 0 0 0;again 5[write 0 0 1;];");
        check.due("18: no room", false, x.can(0, 1, 0));
        check.due("18: no chalk", false, x.can(0, 0, 1));
        check.due("18: chalk", true, x.can(0, 1, 1));
        Check.work(x, "again 13[write 1 1 1;];");
        check.due("18: nineteen", true, x.can(1, 1, 2));
        Check.work(x, "write 0 1 1;");
        check.due("18: twenty", 20, x.told(4));
        check.due("18: twenty lines stand", false, x.can(1, 1, 2));
        check.due("18: asked, nothing stays changed", 20, x.told(9));
        check.noSuch("18: no writer", () -> x.can(2, 0, 0) ? 1 : 0);
        check.noSuch("18: no bid", () -> x.can(0, 2, 0) ? 1 : 0);
        check.noSuch("18: no row", () -> x.can(0, 0, 3) ? 1 : 0);
        check.noSuch("18: below", () -> x.can(-1, 0, 0) ? 1 : 0);
        check.noSuch("18: below", () -> x.can(0, -1, 0) ? 1 : 0);
        check.noSuch("18: below", () -> x.can(0, 0, -1) ? 1 : 0);
    }

    private static void above() {
        ChalkWall x = written();
        int[] due = {19, 9, 5, 0, 0};
        for (int row = 0; row < due.length; row++) {
            check.due("30: above(" + row + ")", due[row], x.above(row));
        }
        check.illegal("30: below", () -> x.above(-1));
        check.illegal("30: above", () -> x.above(5));
    }

    private static void mightiest() {
        ChalkWall x = Check.withPort(PORT);
        check.due("31: none", -1, x.mightiest(0));
        check.due("31: none", 0, x.mightiest(1));
        Check.work(x, WORK);
        check.due("31: line", 2, x.mightiest(0));
        check.due("31: force", 25, x.mightiest(1));
        Check.law(x, "0-5-place");
        check.due("31: below 0, the first", 0, x.mightiest(0));
        check.due("31: below 0", -5, x.mightiest(1));
        Check.law(x, "place");
        check.due("31: the last", 3, x.mightiest(0));
        check.illegal("31: another what", () -> x.mightiest(2));
        check.illegal("31: another what", () -> x.mightiest(-1));
    }

    private static void missing() {
        ChalkWall x = Check.withPort(PORT);
        check.due("32: all", 15, x.missing());
        Check.work(x, WORK);
        check.due("32: one", 8, x.missing());
        Check.work(x, "rain 2;");
        check.due("32: gone by rain", 13, x.missing());
        Check.work(x, "write 0 0 0;");
        check.due("32: not as it was told", 13, x.missing());
        Check.work(x, "slip 0;slip 0;night;write 0 0 0;");
        check.due("32: as it was told again", 14, x.missing());
    }

    private static void idle() {
        ChalkWall x = Check.withPort(PORT);
        check.due("33: none", 0, x.idle());
        Check.work(x, WORK);
        check.due("33: no chalk", 1, x.idle());
        ChalkWall y = Check.withPort("row 5;writer 0 1;writer 0 1;");
        check.due("33: no bids", 3, y.idle());
        ChalkWall z = Check.withPort("bid 0 1;writer 0 9;knows 0 0;");
        check.due("33: no rows", 1, z.idle());
        ChalkWall w = Check.withPort("row 1;row 9;bid 0 2;writer 0 9;writer 1 9;knows 0 0;knows 1 0;");
        check.due("33: reach", 1, w.idle());
    }

    private static void ends() {
        ChalkWall x = written();
        int[][] due = {{1, 3}, {0, 0}, {2, 2}};
        for (int row = 0; row < 3; row++) {
            check.due("34: first on " + row, due[row][0], x.ends(row, 0));
            check.due("34: last on " + row, due[row][1], x.ends(row, 1));
        }
        Check.work(x, "rain 1;");
        check.due("34: none", -1, x.ends(0, 0));
        check.due("34: none", -1, x.ends(0, 1));
        check.due("34: counted anew", 1, x.ends(2, 0));
        check.noSuch("34: no row", () -> x.ends(3, 0));
        check.noSuch("34: no row, ahead of others", () -> x.ends(-1, 5));
        check.illegal("34: another what", () -> x.ends(0, 2));
        check.illegal("34: another what", () -> x.ends(0, -1));
    }

    private static void loud() {
        ChalkWall x = written();
        check.due("35: the first", 18, x.loud(0));
        check.due("35: the second", 31, x.loud(1));
        Check.law(x, "512*512*512*8");
        check.due("35: wraps", Integer.MIN_VALUE, x.loud(0));
        Check.work(x, "night;");
        check.due("35: none", 0, x.loud(0));
        check.noSuch("35: no writer", () -> x.loud(2));
        check.noSuch("35: no writer", () -> x.loud(-1));
    }
}
