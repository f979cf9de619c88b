import java.nio.charset.StandardCharsets;
import java.util.NoSuchElementException;

/** Counts and prints the calls whose answers are not as due; one object a test program. */
class Check {
    interface Call {
        long answer();
    }

    static final String NO_SUCH = "throws.NoSuchElementException";
    static final String ILLEGAL = "throws.IllegalArgumentException";

    private int wrong;
    private int asked;

    void due(String what, long want, long got) {
        same(what, Long.toString(want), Long.toString(got));
    }

    void due(String what, boolean want, boolean got) {
        same(what, Boolean.toString(want), Boolean.toString(got));
    }

    void noSuch(String what, Call call) {
        same(what, NO_SUCH, outcome(call));
    }

    void illegal(String what, Call call) {
        same(what, ILLEGAL, outcome(call));
    }

    void same(String what, String want, String got) {
        asked++;
        if (!want.equals(got)) {
            wrong++;
            System.out.println(what + " answered " + got + ", due is " + want);
        }
    }

    void end(String name) {
        System.out.println(name + ": " + asked + " answers, " + wrong + " of them not as due");
        if (wrong != 0 || asked == 0) {
            System.exit(1);
        }
    }

    /** What a call answers, or the name of what it throws. */
    static String outcome(Call call) {
        try {
            return Long.toString(call.answer());
        } catch (NoSuchElementException e) {
            return nameOf(e);
        } catch (IllegalArgumentException e) {
            return nameOf(e);
        }
    }

    private static String nameOf(RuntimeException e) {
        return "throws." + e.getClass().getSimpleName();
    }

    /** Feeds a text, filled up with blanks to whole feeds: how many bytes it has without these. */
    static int feed(ChalkWall x, String text) {
        byte[] bytes = text.getBytes(StandardCharsets.ISO_8859_1);
        for (int from = 0; from < bytes.length; from += 20) {
            int[] numbers = new int[5];
            for (int i = 0; i < 20; i++) {
                int sign = from + i < bytes.length ? bytes[from + i] & 255 : ' ';
                numbers[i / 4] = numbers[i / 4] << 8 | sign;
            }
            x.feed(numbers[0], numbers[1], numbers[2], numbers[3], numbers[4]);
        }
        return bytes.length;
    }

    static int port(ChalkWall x, String text) {
        return x.port(feed(x, text));
    }

    static int law(ChalkWall x, String text) {
        return x.law(feed(x, text));
    }

    static int work(ChalkWall x, String text) {
        return x.work(feed(x, text));
    }

    static int deeds(ChalkWall x, String text) {
        return x.deeds(feed(x, text));
    }

    static ChalkWall withPort(String text) {
        ChalkWall x = new ChalkWall();
        int bids = port(x, text);
        if (bids < 0) {
            throw new IllegalStateException("the test's own port has a fault: " + text);
        }
        return x;
    }

    static String times(String text, int many) {
        return text.repeat(many);
    }
}
