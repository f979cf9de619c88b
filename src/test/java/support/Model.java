import java.math.BigInteger;
import java.util.ArrayList;
import java.util.HashSet;
import java.util.List;
import java.util.NoSuchElementException;
import java.util.Set;

/**
 * The document told a second time, as plainly and slowly as can be, with the Java library: ModelTest
 * asks it and ChalkWall the same.
 */
final class Model {
    static final class Fault extends RuntimeException {
        private static final long serialVersionUID = 1L;
        final int kind;
        final int place;

        Fault(int kind, int place) {
            this.kind = kind;
            this.place = place;
        }
    }

    record Row(int letters) { }

    record Bid(int act, int letters) { }

    record Writer(int reach, int chalk, Set<Integer> knows) { }

    record Line(int bid, int act, int row, int writer) { }

    record Step(String word, List<Integer> numbers, List<Step> body) { }

    record Token(char type, String text, int place) { }

    static final class World {
        int day;
        int written;
        List<Line> lines = new ArrayList<>();
        List<Integer> acts = new ArrayList<>();
        List<Integer> slips = new ArrayList<>();
        List<Integer> chalk = new ArrayList<>();

        World copy() {
            World w = new World();
            w.day = day;
            w.written = written;
            w.lines.addAll(lines);
            w.acts.addAll(acts);
            w.slips.addAll(slips);
            w.chalk.addAll(chalk);
            return w;
        }
    }

    record Image(World world, List<World> undo) { }

    private StringBuilder tape = new StringBuilder();
    private List<Row> rows = new ArrayList<>();
    private List<Bid> bids = new ArrayList<>();
    private List<Writer> writers = new ArrayList<>();
    private int[] kin = noKin();
    private World world = new World();
    private List<World> undo = new ArrayList<>();
    private List<Image> images = new ArrayList<>();
    private List<Token> law = tokens("row * 10 + letters");
    private int[] deeds = noKin();
    private int refusedSteps;
    private int fault = -1;
    int noSuch;
    int illegal;

    private static int[] noKin() {
        return new int[] {-1, -1, -1, -1, -1, -1, -1, -1, -1, -1};
    }

    // ---- texts

    private static List<Token> tokens(String text) {
        List<Token> all = new ArrayList<>();
        int i = 0;
        while (i < text.length()) {
            char c = text.charAt(i);
            int j = i + 1;
            if (c == ' ') {
                i++;
                continue;
            }
            if (c >= '0' && c <= '9') {
                while (j < text.length() && text.charAt(j) >= '0' && text.charAt(j) <= '9') {
                    j++;
                }
                all.add(new Token('n', text.substring(i, j), i));
            } else if (c >= 'a' && c <= 'z') {
                while (j < text.length() && text.charAt(j) >= 'a' && text.charAt(j) <= 'z') {
                    j++;
                }
                all.add(new Token('w', text.substring(i, j), i));
            } else {
                all.add(new Token('s', text.substring(i, j), i));
            }
            i = j;
        }
        all.add(new Token('e', "", text.length()));
        return all;
    }

    private List<Token> in;
    private int at;

    private Token peek() {
        return in.get(at);
    }

    private boolean is(String text) {
        return peek().type != 'e' && peek().text.equals(text);
    }

    private void need(String text) {
        if (!is(text)) {
            throw new Fault(1, peek().place);
        }
        at++;
    }

    private int num(int least, int most) {
        Token t = peek();
        if (t.type != 'n') {
            throw new Fault(1, t.place);
        }
        BigInteger v = new BigInteger(t.text);
        if (v.compareTo(BigInteger.valueOf(least)) < 0 || v.compareTo(BigInteger.valueOf(most)) > 0) {
            throw new Fault(2, t.place);
        }
        at++;
        return v.intValue();
    }

    private String taken(int n) {
        String text = tape.substring(0, n);
        tape = new StringBuilder();
        fault = -1;
        return text;
    }

    int feed(int a, int b, int c, int d, int e) {
        if (tape.length() + 20 > 600) {
            return -1;
        }
        for (int v : new int[] {a, b, c, d, e}) {
            tape.append((char) (v >>> 24)).append((char) (v >>> 16 & 255));
            tape.append((char) (v >>> 8 & 255)).append((char) (v & 255));
        }
        return tape.length();
    }

    int port(int n) {
        must(n >= 0 && n <= tape.length());
        String text = taken(n);
        List<Row> r = new ArrayList<>();
        List<Bid> b = new ArrayList<>();
        List<Writer> w = new ArrayList<>();
        int[] k = noKin();
        try {
            in = tokens(text);
            at = 0;
            int clauses = 0;
            while (peek().type != 'e') {
                Token word = peek();
                if (word.type != 'w' || !List.of("row", "bid", "kin", "writer", "knows").contains(word.text)) {
                    throw new Fault(1, word.place);
                }
                clauses++;
                if (clauses > 60 || is("row") && r.size() == 4 || is("bid") && b.size() == 8
                        || is("writer") && w.size() == 6) {
                    throw new Fault(3, word.place);
                }
                at++;
                if (word.text.equals("row")) {
                    r.add(new Row(num(1, 30)));
                } else if (word.text.equals("bid")) {
                    b.add(new Bid(num(0, 9), num(1, 15)));
                } else if (word.text.equals("writer")) {
                    w.add(new Writer(num(0, 3), num(1, 60), new HashSet<>()));
                } else if (word.text.equals("knows")) {
                    int who = num(0, w.size() - 1);
                    w.get(who).knows.add(num(0, b.size() - 1));
                } else {
                    int from = num(0, 9);
                    int place = peek().place;
                    int to = num(0, 9);
                    if (from == to) {
                        throw new Fault(2, place);
                    }
                    k[from] = to;
                }
                need(";");
            }
        } catch (Fault f) {
            fault = f.place;
            return f.kind - 10;
        }
        rows = r;
        bids = b;
        writers = w;
        kin = k;
        law = tokens("row * 10 + letters");
        deeds = noKin();
        images = new ArrayList<>();
        undo = new ArrayList<>();
        refusedSteps = 0;
        world = new World();
        for (Bid bid : bids) {
            world.acts.add(bid.act);
            world.slips.add(0);
        }
        for (Writer writer : writers) {
            world.chalk.add(writer.chalk);
        }
        return bids.size();
    }

    int law(int n) {
        must(n >= 0 && n <= tape.length() && n <= 150);
        String text = taken(n);
        try {
            in = tokens(text);
            at = 0;
            sum(new int[8], 0);
            if (peek().type != 'e') {
                throw new Fault(1, peek().place);
            }
        } catch (Fault f) {
            fault = f.place;
            return f.kind - 10;
        }
        law = in;
        return 1;
    }

    private int weigh(int... given) {
        in = law;
        at = 0;
        return sum(given, 0);
    }

    private int sum(int[] given, int open) {
        long value = product(given, open);
        while (is("+") || is("-")) {
            boolean plus = is("+");
            at++;
            long other = product(given, open);
            value = (int) (plus ? value + other : value - other);
        }
        return (int) value;
    }

    private int product(int[] given, int open) {
        long value = unit(given, open);
        while (is("*") || is("/") || is("%")) {
            String op = peek().text;
            at++;
            long other = unit(given, open);
            if (op.equals("*")) {
                value = (int) (value * other);
            } else if (other == 0) {
                value = 0;
            } else {
                value = (int) (op.equals("/") ? value / other : value % other);
            }
        }
        return (int) value;
    }

    private int unit(int[] given, int open) {
        Token t = peek();
        if (t.type == 'n') {
            return num(0, 999);
        }
        int word = List.of("row", "letters", "place", "writer", "act", "day", "reach", "old").indexOf(t.text);
        if (word >= 0) {
            at++;
            return given[word];
        }
        if (!List.of("(", "least", "most").contains(t.text)) {
            throw new Fault(1, t.place);
        }
        if (open == 6) {
            throw new Fault(3, t.place);
        }
        at++;
        if (t.text.equals("(")) {
            int v = sum(given, open + 1);
            need(")");
            return v;
        }
        need("[");
        int a = sum(given, open + 1);
        need(",");
        int b = sum(given, open + 1);
        need("]");
        return t.text.equals("least") ? Math.min(a, b) : Math.max(a, b);
    }

    int deeds(int n) {
        must(n >= 0 && n <= tape.length() && n <= 60);
        String text = taken(n);
        int[] read = noKin();
        try {
            in = tokens(text);
            at = 0;
            while (peek().type != 'e') {
                int place = peek().place;
                int act = num(0, 9);
                if (read[act] != -1) {
                    throw new Fault(2, place);
                }
                read[act] = num(0, 1);
                need(";");
            }
        } catch (Fault f) {
            fault = f.place;
            return f.kind - 10;
        }
        deeds = read;
        return told(7);
    }

    private int begun;
    private int done;

    int work(int n) {
        must(n >= 0 && n <= tape.length() && n <= 150);
        String text = taken(n);
        if (undo.size() == 16) {
            return -20;
        }
        List<Step> steps;
        try {
            in = tokens(text);
            at = 0;
            steps = steps(0);
        } catch (Fault f) {
            fault = f.place;
            return f.kind - 10;
        }
        undo.add(world.copy());
        begun = 0;
        done = 0;
        refusedSteps = 0;
        doAll(steps);
        return done;
    }

    private List<Step> steps(int open) {
        List<Step> all = new ArrayList<>();
        while (open == 0 ? peek().type != 'e' : !is("]")) {
            Token t = peek();
            if (!List.of("write", "slip", "rain", "night", "again").contains(t.text)) {
                throw new Fault(1, t.place);
            }
            if (is("again") && open == 6) {
                throw new Fault(3, t.place);
            }
            at++;
            List<Integer> numbers = new ArrayList<>();
            List<Step> body = null;
            switch (t.text) {
                case "write" -> {
                    numbers.add(num(0, writers.size() - 1));
                    numbers.add(num(0, bids.size() - 1));
                    numbers.add(num(0, rows.size() - 1));
                }
                case "slip" -> numbers.add(num(0, bids.size() - 1));
                case "rain" -> numbers.add(num(1, 4));
                case "again" -> {
                    numbers.add(num(0, 30));
                    need("[");
                    body = steps(open + 1);
                    need("]");
                }
                default -> { }
            }
            need(";");
            all.add(new Step(t.text, numbers, body));
        }
        return all;
    }

    private void doAll(List<Step> steps) {
        for (Step s : steps) {
            if (begun == 200) {
                return;
            }
            begun++;
            if (s.body != null) {
                for (int i = 0; i < s.numbers.get(0); i++) {
                    doAll(s.body);
                }
                continue;
            }
            boolean fine = switch (s.word) {
                case "write" -> write(s.numbers.get(0), s.numbers.get(1), s.numbers.get(2));
                case "slip" -> slip(s.numbers.get(0));
                case "rain" -> rain(s.numbers.get(0));
                default -> world.day < 500 && night();
            };
            if (fine) {
                done++;
            } else {
                refusedSteps++;
            }
        }
    }

    private boolean may(int w, int k, int r) {
        int room = rows.get(r).letters;
        for (Line l : world.lines) {
            room -= l.row == r ? bids.get(l.bid).letters : 0;
        }
        int letters = bids.get(k).letters;
        return writers.get(w).knows.contains(k) && r <= writers.get(w).reach && room >= letters
                && world.chalk.get(w) >= letters && world.lines.size() < 20;
    }

    private boolean write(int w, int k, int r) {
        if (!may(w, k, r)) {
            return false;
        }
        world.lines.add(new Line(k, world.acts.get(k), r, w));
        world.chalk.set(w, world.chalk.get(w) - bids.get(k).letters);
        world.written++;
        return true;
    }

    private boolean slip(int k) {
        int to = kin[world.acts.get(k)];
        if (to < 0) {
            return false;
        }
        world.acts.set(k, to);
        world.slips.set(k, world.slips.get(k) + 1);
        return true;
    }

    private boolean rain(int n) {
        return world.lines.removeIf(l -> l.row < n);
    }

    private boolean night() {
        world.lines.clear();
        for (int w = 0; w < writers.size(); w++) {
            world.chalk.set(w, writers.get(w).chalk);
        }
        world.day++;
        return true;
    }

    // ---- the rest of the face

    private void must(boolean fine) {
        if (!fine) {
            illegal++;
            throw new IllegalArgumentException();
        }
    }

    private void exist(boolean fine) {
        if (!fine) {
            noSuch++;
            throw new NoSuchElementException();
        }
    }

    private static boolean in(int v, int least, int most) {
        return v >= least && v <= most;
    }

    private List<Integer> listed(int bits, int many) {
        List<Integer> all = new ArrayList<>();
        for (int i = 0; i < 32; i++) {
            if ((bits >>> i & 1) == 1) {
                must(i < many);
                all.add(i);
            }
        }
        return all;
    }

    int fault() {
        return fault;
    }

    int undo() {
        if (undo.isEmpty()) {
            return -1;
        }
        world = undo.remove(undo.size() - 1).copy();
        refusedSteps = 0;
        return undo.size();
    }

    int told(int what) {
        must(in(what, 0, 9));
        int inForce = 0;
        for (int m = 0; m < 5; m++) {
            inForce |= winner(m) < 0 ? 0 : 1 << world.lines.get(winner(m)).act;
        }
        int lines = 0;
        for (int d : deeds) {
            lines += d >= 0 ? 1 : 0;
        }
        return switch (what) {
            case 0 -> rows.size();
            case 1 -> bids.size();
            case 2 -> writers.size();
            case 3 -> world.day;
            case 4 -> world.lines.size();
            case 5 -> above(0);
            case 6 -> inForce;
            case 7 -> lines;
            case 8 -> refusedSteps;
            default -> world.written;
        };
    }

    int row(int row, int what) {
        exist(in(row, 0, rows.size() - 1));
        must(in(what, 0, 3));
        int letters = 0;
        int lines = 0;
        int acts = 0;
        for (Line l : world.lines) {
            if (l.row == row) {
                letters += bids.get(l.bid).letters;
                lines++;
                acts |= 1 << l.act;
            }
        }
        int wide = rows.get(row).letters;
        return new int[] {wide, wide - letters, lines, acts}[what];
    }

    int bid(int bid, int what) {
        exist(in(bid, 0, bids.size() - 1));
        must(in(what, 0, 5));
        int who = 0;
        for (int w = 0; w < writers.size(); w++) {
            who |= writers.get(w).knows.contains(bid) ? 1 << w : 0;
        }
        int lines = (int) world.lines.stream().filter(l -> l.bid == bid).count();
        return new int[] {world.acts.get(bid), bids.get(bid).letters, bids.get(bid).act,
            world.slips.get(bid), who, lines}[what];
    }

    int writer(int writer, int what) {
        exist(in(writer, 0, writers.size() - 1));
        must(in(what, 0, 4));
        int known = 0;
        for (int k : writers.get(writer).knows) {
            known += 1 << k;
        }
        int lines = (int) world.lines.stream().filter(l -> l.writer == writer).count();
        return new int[] {writers.get(writer).reach, writers.get(writer).chalk, world.chalk.get(writer),
            known, lines}[what];
    }

    private int forceOf(int line) {
        Line l = world.lines.get(line);
        int place = (int) world.lines.subList(0, line).stream().filter(o -> o.row == l.row).count();
        return weigh(l.row, bids.get(l.bid).letters, place, l.writer, l.act, world.day,
                writers.get(l.writer).reach, line);
    }

    int line(int line, int what) {
        exist(in(line, 0, world.lines.size() - 1));
        must(in(what, 0, 4));
        Line l = world.lines.get(line);
        return new int[] {l.bid, l.act, l.row, l.writer, forceOf(line)}[what];
    }

    int kin(int act) {
        must(in(act, 0, 9));
        return kin[act];
    }

    int would(int row, int letters, int place, int writer, int act, int day, int reach, int old) {
        must(in(row, 0, 3));
        must(in(letters, 1, 15));
        must(in(place, 0, 19));
        must(in(writer, 0, 5));
        must(in(act, 0, 9));
        must(in(day, 0, 500));
        must(in(reach, 0, 3));
        must(in(old, 0, 19));
        return weigh(row, letters, place, writer, act, day, reach, old);
    }

    private int winner(int matter) {
        int best = -1;
        for (int i = world.lines.size() - 1; i >= 0; i--) {
            boolean of = world.lines.get(i).act == 2 * matter || world.lines.get(i).act == 2 * matter + 1;
            if (of && forceOf(i) > 0 && (best < 0 || forceOf(i) >= forceOf(best))) {
                best = i;
            }
        }
        return best;
    }

    int force(int matter, int what) {
        must(in(matter, 0, 4));
        must(in(what, 0, 1));
        int line = winner(matter);
        return line < 0 ? -1 : what == 1 ? line : world.lines.get(line).act;
    }

    int torn() {
        Set<Integer> acts = new HashSet<>();
        world.lines.forEach(l -> acts.add(l.act));
        int bits = 0;
        for (int m = 0; m < 5; m++) {
            bits += acts.contains(2 * m) && acts.contains(2 * m + 1) ? 1 << m : 0;
        }
        return bits;
    }

    boolean can(int writer, int bid, int row) {
        exist(in(writer, 0, writers.size() - 1) && in(bid, 0, bids.size() - 1) && in(row, 0, rows.size() - 1));
        return may(writer, bid, row);
    }

    int send(int which) {
        List<Integer> wanted = listed(which, bids.size());
        for (int size = 0; size <= writers.size(); size++) {
            for (int group = 0; group < 64; group++) {
                Set<Integer> known = new HashSet<>();
                boolean all = true;
                for (int w = 0; w < 6; w++) {
                    if ((group >> w & 1) == 1) {
                        all &= w < writers.size();
                        known.addAll(w < writers.size() ? writers.get(w).knows : Set.of());
                    }
                }
                if (all && Integer.bitCount(group) == size && known.containsAll(wanted)) {
                    return group;
                }
            }
        }
        return -1;
    }

    int lost(int which) {
        for (int k : listed(which, bids.size())) {
            if (writers.stream().noneMatch(w -> w.knows.contains(k))) {
                return k;
            }
        }
        return -1;
    }

    int path(int from, int to) {
        must(in(from, 0, 9) && in(to, 0, 9));
        int a = from;
        for (int i = 0; i < 100; i++) {
            if (a == to) {
                return i;
            }
            if (a >= 0) {
                a = kin[a];
            }
        }
        return -1;
    }

    int comes(int act) {
        must(in(act, 0, 9));
        int bits = 0;
        for (int to = 0; to < 10; to++) {
            bits += path(act, to) >= 0 ? 1 << to : 0;
        }
        return bits;
    }

    private int bestLetters;
    private List<Integer> bestWay;

    private void allWays(List<Integer> wanted, List<Integer> way, int[] room, int letters) {
        int bid = way.size();
        if (bid == bids.size()) {
            if (letters > bestLetters) {
                bestLetters = letters;
                bestWay = new ArrayList<>(way);
            }
            return;
        }
        int l = bids.get(bid).letters;
        for (int r = 0; r < rows.size() && wanted.contains(bid); r++) {
            if (room[r] >= l) {
                room[r] -= l;
                way.add(r);
                allWays(wanted, way, room, letters + l);
                way.remove(way.size() - 1);
                room[r] += l;
            }
        }
        way.add(-1);
        allWays(wanted, way, room, letters);
        way.remove(way.size() - 1);
    }

    private void fitAll(int which) {
        bestLetters = -1;
        List<Integer> wanted = listed(which, bids.size());
        allWays(wanted, new ArrayList<>(), rows.stream().mapToInt(Row::letters).toArray(), 0);
    }

    int fits(int which) {
        fitAll(which);
        return bestLetters;
    }

    int fitted(int which, int bid) {
        exist(in(bid, 0, bids.size() - 1));
        fitAll(which);
        return bestWay.get(bid);
    }

    private List<Integer> setsLeft(int[] said) {
        List<Integer> left = new ArrayList<>();
        for (int set = 0; set < 1 << bids.size(); set++) {
            boolean fine = true;
            for (int a = 0; a < 10; a++) {
                boolean any = false;
                for (int k = 0; k < bids.size(); k++) {
                    any |= (set >> k & 1) == 1 && world.acts.get(k) == a;
                }
                fine &= said[a] < 0 || any == (said[a] == 1);
            }
            if (fine) {
                left.add(set);
            }
        }
        return left;
    }

    int stood(int what) {
        must(in(what, 0, 2));
        List<Integer> left = setsLeft(deeds);
        if (what == 0) {
            return left.size();
        }
        if (left.isEmpty()) {
            return what == 1 ? -1 : 0;
        }
        return what == 1 ? left.get(0) : left.stream().reduce(255, (a, b) -> a & b);
    }

    int ask(int what) {
        must(in(what, 0, 1));
        int best = -1;
        int bestWorst = -1;
        for (int a = 0; a < 10; a++) {
            if (deeds[a] >= 0) {
                continue;
            }
            int[] said = deeds.clone();
            said[a] = 0;
            int worst = setsLeft(said).size();
            said[a] = 1;
            worst = Math.max(worst, setsLeft(said).size());
            if (best < 0 || worst < bestWorst) {
                best = a;
                bestWorst = worst;
            }
        }
        return what == 0 ? best : bestWorst;
    }

    private BigInteger ways(int act, int q, int n, int to) {
        if (n == 0) {
            return act == to ? BigInteger.ONE : BigInteger.ZERO;
        }
        int next = kin[act] < 0 ? act : kin[act];
        BigInteger slips = q == 0 ? BigInteger.ZERO
                : ways(next, q, n - 1, to).multiply(BigInteger.valueOf(q));
        BigInteger stays = q == 16 ? BigInteger.ZERO
                : ways(act, q, n - 1, to).multiply(BigInteger.valueOf(16 - q));
        return slips.add(stays);
    }

    long still(int bid, int q, int n, int act, int part) {
        exist(in(bid, 0, bids.size() - 1));
        must(in(q, 0, 16) && in(n, 0, 12) && in(act, 0, 9) && in(part, 0, 1));
        BigInteger above = ways(world.acts.get(bid), q, n, act);
        BigInteger below = BigInteger.valueOf(16).pow(n);
        BigInteger by = above.gcd(below);
        return (part == 0 ? above : below).divide(by).longValueExact();
    }

    private int have(int own, int other, int u, int v) {
        int n = rows.get(own).letters;
        return own == other ? (int) Math.floor(n / 2.0) - u : own > other ? n + v : n;
    }

    int crews(int u, int v, int what) {
        must(in(u, 0, 20) && in(v, 0, 20) && in(what, 0, 2));
        List<int[]> rests = new ArrayList<>();
        for (int a = 0; a < rows.size(); a++) {
            for (int b = 0; b < rows.size(); b++) {
                int mostA = Integer.MIN_VALUE;
                int mostB = Integer.MIN_VALUE;
                for (int c = 0; c < rows.size(); c++) {
                    mostA = Math.max(mostA, have(c, b, u, v));
                    mostB = Math.max(mostB, have(c, a, u, v));
                }
                if (have(a, b, u, v) == mostA && have(b, a, u, v) == mostB) {
                    rests.add(new int[] {10 * a + b, mostA + mostB});
                }
            }
        }
        if (what == 0) {
            return rests.size();
        }
        return rests.isEmpty() ? (what == 1 ? -1 : 0) : rests.get(0)[what - 1];
    }

    int share(int writer, int group, int n) {
        exist(in(writer, 0, writers.size() - 1));
        List<Integer> of = listed(group, writers.size());
        must(in(n, 0, 400));
        for (int bound = 1000; bound >= 0; bound--) {
            int sum = 0;
            for (int w : of) {
                sum += Math.min(bound, writers.get(w).chalk);
            }
            if (sum <= n) {
                return of.contains(writer) ? Math.min(bound, writers.get(writer).chalk) : 0;
            }
        }
        return 0;
    }

    int above(int row) {
        must(in(row, 0, 4));
        return world.lines.stream().filter(l -> l.row >= row).mapToInt(l -> bids.get(l.bid).letters).sum();
    }

    int mightiest(int what) {
        must(in(what, 0, 1));
        int best = -1;
        for (int i = world.lines.size() - 1; i >= 0; i--) {
            if (best < 0 || forceOf(i) >= forceOf(best)) {
                best = i;
            }
        }
        return what == 0 ? best : best < 0 ? 0 : forceOf(best);
    }

    int missing() {
        int bits = 0;
        for (int k = 0; k < bids.size(); k++) {
            int bid = k;
            bits += world.lines.stream().noneMatch(l -> l.bid == bid && l.act == bids.get(bid).act) ? 1 << k : 0;
        }
        return bits;
    }

    int idle() {
        int bits = 0;
        for (int w = 0; w < writers.size(); w++) {
            boolean any = false;
            for (int k = 0; k < bids.size(); k++) {
                for (int r = 0; r < rows.size(); r++) {
                    any |= may(w, k, r);
                }
            }
            bits += any ? 0 : 1 << w;
        }
        return bits;
    }

    int ends(int row, int what) {
        exist(in(row, 0, rows.size() - 1));
        must(in(what, 0, 1));
        List<Integer> on = new ArrayList<>();
        for (int i = 0; i < world.lines.size(); i++) {
            if (world.lines.get(i).row == row) {
                on.add(i);
            }
        }
        return on.isEmpty() ? -1 : what == 0 ? on.get(0) : on.get(on.size() - 1);
    }

    int loud(int writer) {
        exist(in(writer, 0, writers.size() - 1));
        long sum = 0;
        for (int i = 0; i < world.lines.size(); i++) {
            sum += world.lines.get(i).writer == writer ? forceOf(i) : 0;
        }
        return (int) sum;
    }

    private long seed;

    private int draw(int by) {
        seed = BigInteger.valueOf(seed).multiply(BigInteger.valueOf(1103515245)).add(BigInteger.valueOf(12345))
                .mod(BigInteger.ONE.shiftLeft(32)).longValueExact();
        return (int) (seed / 65536 % 32768 % by);
    }

    private int[] play(int from, int dawns, int q, int m) {
        World kept = world;
        world = world.copy();
        seed = from & 0xffffffffL;
        int[] found = new int[4];
        for (int dawn = 1; dawn <= dawns; dawn++) {
            if (writers.isEmpty() || bids.isEmpty() || rows.isEmpty()) {
                break;
            }
            int w = draw(writers.size());
            int k = draw(bids.size());
            int r = draw(rows.size());
            found[0] += write(w, k, r) ? 1 : 0;
            found[1] += draw(16) < q && slip(k) ? 1 : 0;
            found[2] += draw(16) < m && rain(1) ? 1 : 0;
            if (dawn % 4 == 0) {
                night();
            }
        }
        for (int k = 0; k < bids.size(); k++) {
            found[3] += world.acts.get(k) == bids.get(k).act ? 1 << k : 0;
        }
        world = kept;
        return found;
    }

    int years(int from, int dawns, int q, int m, int what) {
        must(in(dawns, 1, 96) && in(q, 0, 16) && in(m, 0, 16) && in(what, 0, 3));
        return play(from, dawns, q, m)[what];
    }

    int span(int from, int many, int dawns, int q, int m, int what, int bid) {
        must(in(many, 1, 20) && in(dawns, 1, 96) && in(q, 0, 16) && in(m, 0, 16) && in(what, 0, 2)
                && in(bid, 0, bids.size() - 1));
        List<Integer> found = new ArrayList<>();
        int by = 0;
        for (int i = 0; i < many; i++) {
            int kept = play(from + i, dawns, q, m)[3];
            found.add(Integer.bitCount(kept));
            by += kept >> bid & 1;
        }
        found.sort(null);
        return what == 0 ? found.get(0) : what == 1 ? found.get(many - 1) : by;
    }

    int image() {
        if (images.size() == 3) {
            return -1;
        }
        images.add(new Image(world.copy(), new ArrayList<>(undo)));
        return images.size();
    }

    int restore() {
        if (images.isEmpty()) {
            return -1;
        }
        Image image = images.remove(images.size() - 1);
        world = image.world.copy();
        undo = image.undo;
        refusedSteps = 0;
        return images.size();
    }

    int status(int what) {
        return what == 0 ? noSuch : what == 1 ? illegal : -1;
    }

    int count(int what) {
        return what == 0 ? images.size() : what == 1 ? tape.length() : what == 2 ? undo.size() : -1;
    }
}
