import java.util.Random;

/** Makes texts of the document's grammars by chance, most of them without a FAULT. */
final class Texts {
    private static final String SIGNS = "0123456789abcdefghiklmnoprstuvwy;;[](),+-*/%  \u00e9\u0001A";

    private final Random random;

    Texts(Random random) {
        this.random = random;
    }

    int to(int most) {
        return random.nextInt(most + 1);
    }

    boolean seldom(int oneOf) {
        return random.nextInt(oneOf) == 0;
    }

    private String gap() {
        return seldom(5) ? " ".repeat(to(3)) : "";
    }

    private String number(int value) {
        return (seldom(30) ? "00" : "") + value;
    }

    /** A number up to most, now and then one too many. */
    private String some(int least, int most) {
        if (seldom(200)) {
            return seldom(2) ? "" + (most + 1) : seldom(2) ? "4294967297" : "" + Math.max(0, least - 1);
        }
        return number(most < least ? 0 : least + to(most - least));
    }

    String port() {
        StringBuilder text = new StringBuilder();
        int rows = seldom(8) ? to(5) : 1 + to(3);
        int bids = seldom(8) ? to(9) : 1 + to(7);
        int writers = seldom(8) ? to(7) : 1 + to(5);
        for (int i = 0; i < rows; i++) {
            add(text, "row " + some(1, seldom(2) ? 30 : 12));
        }
        for (int i = 0; i < bids; i++) {
            add(text, "bid " + some(0, 9) + " " + some(1, seldom(3) ? 15 : 5));
        }
        for (int i = to(9); i > 0; i--) {
            int a = to(9);
            int b = seldom(100) ? a : (a + 1 + to(8)) % 10;
            add(text, "kin " + number(a) + " " + number(b));
        }
        for (int i = 0; i < writers; i++) {
            add(text, "writer " + some(0, 3) + " " + some(1, 60));
        }
        for (int i = seldom(20) ? 60 : to(30); i > 0 && writers > 0 && bids > 0; i--) {
            add(text, "knows " + some(0, writers - 1) + " " + some(0, bids - 1));
        }
        return changed(text, 600);
    }

    private void add(StringBuilder text, String clause) {
        text.append(gap()).append(clause).append(gap()).append(";");
    }

    String law() {
        StringBuilder text = new StringBuilder();
        if (seldom(6)) {
            int deep = 4 + to(4);
            text.append("(".repeat(deep)).append(to(999)).append(")".repeat(deep));
        } else {
            sum(text, 0);
        }
        return changed(text, 150);
    }

    private void sum(StringBuilder text, int open) {
        product(text, open);
        while (seldom(3)) {
            text.append(gap()).append("+-".charAt(to(1)));
            product(text, open);
        }
    }

    private void product(StringBuilder text, int open) {
        unit(text, open);
        while (seldom(3)) {
            text.append(gap()).append("*/%".charAt(to(2)));
            unit(text, open);
        }
    }

    private void unit(StringBuilder text, int open) {
        String[] words = {"row", "letters", "place", "writer", "act", "day", "reach", "old"};
        text.append(gap());
        int kind = open > 7 || text.length() > 120 ? to(5) : to(9);
        if (kind <= 1) {
            text.append(some(0, seldom(3) ? 999 : 9));
        } else if (kind <= 6) {
            text.append(words[to(7)]);
        } else if (kind == 7) {
            text.append("(");
            sum(text, open + 1);
            text.append(gap()).append(")");
        } else {
            text.append(kind == 8 ? "least" : "most").append(gap()).append("[");
            sum(text, open + 1);
            text.append(gap()).append(",");
            sum(text, open + 1);
            text.append(gap()).append("]");
        }
    }

    String work(int writers, int bids, int rows) {
        StringBuilder text = new StringBuilder();
        if (seldom(10)) {
            int deep = 4 + to(3);
            text.append("again 2[".repeat(deep)).append("night;").append("];".repeat(deep));
        } else if (seldom(10)) {
            text.append("again 30[again 30[night;];];");
        } else {
            int room = seldom(3) ? 140 : 60;
            while (text.length() < room && !seldom(9)) {
                step(text, writers, bids, rows, 0);
            }
        }
        return changed(text, 150);
    }

    private void step(StringBuilder text, int writers, int bids, int rows, int open) {
        text.append(gap());
        int kind = to(11);
        if (kind <= 5) {
            text.append("write ").append(some(0, writers - 1)).append(" ").append(some(0, bids - 1));
            text.append(" ").append(some(0, rows - 1));
        } else if (kind <= 7) {
            text.append("slip ").append(some(0, bids - 1));
        } else if (kind == 8) {
            text.append("rain ").append(some(1, 4));
        } else if (kind == 9 && seldom(2)) {
            text.append("night");
        } else if (open < 7 && text.length() < 100) {
            text.append("again ").append(some(0, 30)).append(gap()).append("[");
            while (!seldom(3)) {
                step(text, writers, bids, rows, open + 1);
            }
            text.append(gap()).append("]");
        } else {
            text.append("slip ").append(some(0, bids - 1));
        }
        text.append(gap()).append(";");
    }

    String deeds(int[] acts) {
        StringBuilder text = new StringBuilder();
        int used = 0;
        for (int i = seldom(9) ? 20 : to(4); i > 0; i--) {
            int act = acts.length > 0 && !seldom(4) ? acts[to(acts.length - 1)] : to(9);
            if ((used >> act & 1) == 0 || seldom(40)) {
                used |= 1 << act;
                text.append(gap()).append(number(act)).append(" ").append(some(0, 1)).append(gap()).append(";");
            }
        }
        return changed(text, 60);
    }

    /** Now and then another sign, one more or one less; cut where the document has no more room. */
    private String changed(StringBuilder text, int most) {
        text.append(gap());
        for (int i = seldom(6) ? 1 + to(1) : 0; i > 0 && text.length() > 0; i--) {
            int place = to(text.length() - 1);
            char sign = SIGNS.charAt(to(SIGNS.length() - 1));
            int how = to(2);
            if (how == 0) {
                text.setCharAt(place, sign);
            } else if (how == 1) {
                text.insert(place, sign);
            } else {
                text.deleteCharAt(place);
            }
        }
        return text.substring(0, Math.min(text.length(), most));
    }
}
