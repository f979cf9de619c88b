import java.nio.charset.StandardCharsets;
import java.util.Random;

/** Asks ChalkWall and the plain Model the same, by chance, and wants the same answers. */
public final class ModelTest {
    private static final int RUNS = 400;
    // A text may need 30 feeds and some calls more, and an object has 512 calls.
    private static final int CALLS = 470;

    private final Check check;
    private final Random random;
    private final Texts texts;
    private final ChalkWall wall = new ChalkWall();
    private final Model model = new Model();
    private final String name;
    private int calls;

    private ModelTest(Check check, int seed) {
        this.check = check;
        random = new Random(seed);
        texts = new Texts(random);
        name = "run " + seed;
    }

    public static void main(String[] args) {
        Check check = new Check();
        for (int seed = 1; seed <= RUNS; seed++) {
            new ModelTest(check, seed).run();
        }
        check.end("ModelTest");
    }

    private void run() {
        text(0);
        while (calls < CALLS) {
            if (texts.seldom(12)) {
                text(texts.seldom(12) ? 0 : texts.to(2) + 1);
            } else if (texts.seldom(20)) {
                ask(texts.seldom(2) ? 36 : 4 + texts.to(1));
            } else {
                ask(texts.to(39));
            }
        }
    }

    private void both(String call, Check.Call ofWall, Check.Call ofModel) {
        calls++;
        check.same(name + ", call " + calls + ": " + call, Check.outcome(ofModel), Check.outcome(ofWall));
    }

    private void feed(String text) {
        byte[] bytes = text.getBytes(StandardCharsets.ISO_8859_1);
        for (int from = 0; from < bytes.length; from += 20) {
            int[] v = new int[5];
            for (int i = 0; i < 20; i++) {
                v[i / 4] = v[i / 4] << 8 | (from + i < bytes.length ? bytes[from + i] & 255 : ' ');
            }
            both("feed", () -> wall.feed(v[0], v[1], v[2], v[3], v[4]), () -> model.feed(v[0], v[1], v[2], v[3], v[4]));
        }
    }

    private void text(int kind) {
        String text = kind == 0 ? texts.port() : kind == 1 ? texts.law() : kind == 2
                ? texts.work(model.told(2), model.told(1), model.told(0)) : texts.deeds(acts());
        feed(text);
        int n = texts.seldom(25) ? text.length() + texts.to(40) - 20 : text.length();
        String call = new String[] {"port", "law", "work", "deeds"}[kind] + " '" + text + "' " + n;
        switch (kind) {
            case 0 -> both(call, () -> wall.port(n), () -> model.port(n));
            case 1 -> both(call, () -> wall.law(n), () -> model.law(n));
            case 2 -> both(call, () -> wall.work(n), () -> model.work(n));
            default -> both(call, () -> wall.deeds(n), () -> model.deeds(n));
        }
        both("fault()", wall::fault, model::fault);
        both("told(8)", () -> wall.told(8), () -> model.told(8));
        if (texts.seldom(3)) {
            both("image()", wall::image, model::image);
        }
    }

    private int[] acts() {
        int[] acts = new int[model.told(1)];
        for (int i = 0; i < acts.length; i++) {
            acts[i] = model.bid(i, 0);
        }
        return acts;
    }

    /** A number from 0 to most, now and then one beside it. */
    private int near(int most) {
        return texts.seldom(40) ? (texts.seldom(2) ? -1 : most + 1) : texts.to(Math.max(most, 0));
    }

    private int bits(int many) {
        if (texts.seldom(40)) {
            return texts.seldom(2) ? 1 << many : Integer.MIN_VALUE;
        }
        return texts.to((1 << many) - 1);
    }

    private void ask(int which) {
        int rows = model.told(0);
        int bids = model.told(1);
        int writers = model.told(2);
        if (which < 12) {
            askOfWall(which, rows, bids, writers);
        } else if (which < 26) {
            askOfPort(which, rows, bids, writers);
        } else {
            askOfAll(which, rows, bids, writers);
        }
    }

    private void askOfWall(int which, int rows, int bids, int writers) {
        int row = near(rows - 1);
        int bid = near(bids - 1);
        int writer = near(writers - 1);
        int line = near(model.told(4) - 1);
        int what = near(9);
        int few = near(4);
        switch (which) {
            case 0 -> both("told " + what, () -> wall.told(what), () -> model.told(what));
            case 1 -> both("row " + row + " " + few, () -> wall.row(row, few), () -> model.row(row, few));
            case 2 -> both("bid " + bid + " " + few, () -> wall.bid(bid, few + 1), () -> model.bid(bid, few + 1));
            case 3 -> both("writer " + writer + " " + few, () -> wall.writer(writer, few),
                    () -> model.writer(writer, few));
            case 4, 5 -> both("line " + line + " " + few, () -> wall.line(line, few), () -> model.line(line, few));
            case 6 -> both("kin " + what, () -> wall.kin(what), () -> model.kin(what));
            case 7 -> both("force " + few, () -> wall.force(few, what & 1), () -> model.force(few, what & 1));
            case 8 -> both("torn", wall::torn, model::torn);
            case 9 -> both("can " + writer + " " + bid + " " + row, () -> wall.can(writer, bid, row) ? 1 : 0,
                    () -> model.can(writer, bid, row) ? 1 : 0);
            case 10 -> both("missing", wall::missing, model::missing);
            default -> both("idle", wall::idle, model::idle);
        }
    }

    private void askOfPort(int which, int rows, int bids, int writers) {
        int told = bits(bids);
        int fewer = Integer.bitCount(told) > 6 && !texts.seldom(40) ? told & 0x80000077 : told;
        int group = bits(writers);
        int writer = near(writers - 1);
        int bid = near(bids - 1);
        int from = near(9);
        int to = near(9);
        int u = near(20);
        int v = near(20);
        int what = near(2);
        int q = near(16);
        int n = near(texts.seldom(5) ? 12 : 5);
        int shared = near(texts.seldom(4) ? 400 : 90);
        switch (which) {
            case 12 -> both("send " + told, () -> wall.send(told), () -> model.send(told));
            case 13 -> both("lost " + told, () -> wall.lost(told), () -> model.lost(told));
            case 14 -> both("path " + from + " " + to, () -> wall.path(from, to), () -> model.path(from, to));
            case 15 -> both("comes " + from, () -> wall.comes(from), () -> model.comes(from));
            case 16 -> both("fits " + fewer, () -> wall.fits(fewer), () -> model.fits(fewer));
            case 17, 18 -> both("fitted " + fewer + " " + bid, () -> wall.fitted(fewer, bid),
                    () -> model.fitted(fewer, bid));
            case 19 -> both("stood " + what, () -> wall.stood(what), () -> model.stood(what));
            case 20 -> both("ask " + what, () -> wall.ask(what), () -> model.ask(what));
            case 21, 22 -> both("still " + bid + " " + q + " " + n + " " + to,
                    () -> wall.still(bid, q, n, to, what - 1), () -> model.still(bid, q, n, to, what - 1));
            case 23 -> both("crews " + u + " " + v + " " + what, () -> wall.crews(u, v, what),
                    () -> model.crews(u, v, what));
            case 24 -> both("share " + writer + " " + group + " " + shared,
                    () -> wall.share(writer, group, shared), () -> model.share(writer, group, shared));
            default -> askWould();
        }
    }

    private void askWould() {
        int[] v = {near(3), 1 + near(14), near(19), near(5), near(9), near(500), near(3), near(19)};
        both("would", () -> wall.would(v[0], v[1], v[2], v[3], v[4], v[5], v[6], v[7]),
                () -> model.would(v[0], v[1], v[2], v[3], v[4], v[5], v[6], v[7]));
    }

    private void askOfAll(int which, int rows, int bids, int writers) {
        int row = near(rows - 1);
        int writer = near(writers - 1);
        int bid = near(bids - 1);
        int seed = texts.seldom(2) ? random.nextInt() : texts.to(50);
        int dawns = 1 + near(95);
        int q = near(16);
        int m = near(16);
        int few = near(3);
        int many = 1 + near(19);
        switch (which) {
            case 26 -> both("above " + few, () -> wall.above(few + 1), () -> model.above(few + 1));
            case 27 -> both("mightiest " + few, () -> wall.mightiest(few / 2), () -> model.mightiest(few / 2));
            case 28 -> both("ends " + row + " " + few, () -> wall.ends(row, few / 2), () -> model.ends(row, few / 2));
            case 29 -> both("loud " + writer, () -> wall.loud(writer), () -> model.loud(writer));
            case 30 -> both("years " + seed + " " + dawns + " " + q + " " + m + " " + few,
                    () -> wall.years(seed, dawns, q, m, few), () -> model.years(seed, dawns, q, m, few));
            case 31 -> both("span " + seed + " " + many + " " + dawns + " " + q + " " + m + " " + few + " " + bid,
                    () -> wall.span(seed, many, dawns, q, m, few - 1, bid),
                    () -> model.span(seed, many, dawns, q, m, few - 1, bid));
            case 32 -> both("image", wall::image, model::image);
            case 33 -> both("restore", wall::restore, model::restore);
            case 34 -> both("status " + few, () -> wall.status(few), () -> model.status(few));
            case 35 -> both("count " + few, () -> wall.count(few), () -> model.count(few));
            case 36 -> both("undo", wall::undo, model::undo);
            case 37 -> both("fault", wall::fault, model::fault);
            default -> both("told(" + 6 + ")", () -> wall.told(6), () -> model.told(6));
        }
    }
}
