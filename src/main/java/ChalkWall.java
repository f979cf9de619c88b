import java.util.NoSuchElementException;

/**
 * A port whose constitution is written on a wall each day: what stands, what is in force, what is
 * remembered. The numbered promises of DOC.md say what each call answers.
 */
public final class ChalkWall {
    public static final int NONE = -1;

    private static final int MOST_TAPE = 600;
    private static final int MOST_LAW = 150;
    private static final int MOST_WORK = 150;
    private static final int MOST_DEEDS = 60;
    private static final int MOST_CLAUSES = 60;
    private static final int MOST_ROWS = 4;
    private static final int MOST_BIDS = 8;
    private static final int MOST_WRITERS = 6;
    private static final int MOST_LINES = 20;
    private static final int MOST_WIDE = 30;
    private static final int MOST_LETTERS = 15;
    private static final int MOST_REACH = 3;
    private static final int MOST_CHALK = 60;
    private static final int MOST_OPEN = 6;
    private static final int MOST_AGAIN = 30;
    private static final int MOST_RAIN = 4;
    private static final int MOST_BEGUN = 200;
    private static final int MOST_DAY = 500;
    private static final int MOST_WORKS = 16;
    private static final int MOST_IMAGES = 3;
    private static final int MOST_STILL = 12;
    private static final int MOST_DAWNS = 96;
    private static final int MOST_SEEDS = 20;
    private static final int MOST_SHARED = 400;
    private static final int MOST_CREW_NUMBER = 20;
    private static final int ACTS = 10;
    private static final int MATTERS = 5;
    private static final int SIXTEEN = 16;

    private static final int CANT_STAND = 1;
    private static final int NONE_SUCH = 2;
    private static final int TOO_MANY = 3;
    private static final int WORKS_FULL = -20;

    private final Tape tape = new Tape();
    private final Plan plan = new Plan();
    private final Wall wall = new Wall();
    private final Past past = new Past();
    private final Fitting fitting = new Fitting();
    private final Inquest inquest = new Inquest();
    private final Dawns dawnsPlayed = new Dawns();
    private final int[] given = new int[8];
    private final long[] chances = new long[ACTS];
    private final long[] chancesNext = new long[ACTS];
    // A text is read into the second of each pair, so that a FAULT leaves the first as it is.
    private Port nowPort = new Port();
    private Port nextPort = new Port();
    private Law nowLaw = new Law();
    private Law nextLaw = new Law();
    private Deeds nowDeeds = new Deeds();
    private Deeds nextDeeds = new Deeds();
    private int refusedSteps;
    private int refusedNoSuch;
    private int refusedIllegal;

    public ChalkWall() {
        wall.begin(nowPort);
    }

    public int feed(int a, int b, int c, int d, int e) {
        if (!tape.hasRoom()) {
            return NONE;
        }
        tape.put(a);
        tape.put(b);
        tape.put(c);
        tape.put(d);
        tape.put(e);
        return tape.many;
    }

    public int port(int n) throws IllegalArgumentException {
        mustBe(isWithin(n, 0, tape.many));
        tape.open(n);
        nextPort.read(tape);
        if (!tape.isFine()) {
            return tape.faultAnswer();
        }
        Port old = nowPort;
        nowPort = nextPort;
        nextPort = old;
        nowLaw.becomePlain();
        nowDeeds.clear();
        past.clear();
        wall.begin(nowPort);
        refusedSteps = 0;
        return nowPort.bids;
    }

    public int law(int n) throws IllegalArgumentException {
        mustBe(isWithin(n, 0, Math.min(MOST_LAW, tape.many)));
        tape.open(n);
        nextLaw.read(tape);
        if (!tape.isFine()) {
            return tape.faultAnswer();
        }
        Law old = nowLaw;
        nowLaw = nextLaw;
        nextLaw = old;
        return 1;
    }

    public int work(int n) throws IllegalArgumentException {
        mustBe(isWithin(n, 0, Math.min(MOST_WORK, tape.many)));
        if (past.works == MOST_WORKS) {
            tape.open(0);
            return WORKS_FULL;
        }
        tape.open(n);
        plan.read(tape, nowPort);
        if (!tape.isFine()) {
            return tape.faultAnswer();
        }
        past.keepWork(wall);
        plan.carryOut(wall, nowPort);
        refusedSteps = plan.refused;
        return plan.done;
    }

    public int deeds(int n) throws IllegalArgumentException {
        mustBe(isWithin(n, 0, Math.min(MOST_DEEDS, tape.many)));
        tape.open(n);
        nextDeeds.read(tape);
        if (!tape.isFine()) {
            return tape.faultAnswer();
        }
        Deeds old = nowDeeds;
        nowDeeds = nextDeeds;
        nextDeeds = old;
        return nowDeeds.lines();
    }

    public int fault() {
        return tape.faultPlace;
    }

    public int undo() {
        if (!past.takeBackWork(wall)) {
            return -1;
        }
        refusedSteps = 0;
        return past.works;
    }

    public int told(int what) throws IllegalArgumentException {
        mustBe(isWithin(what, 0, 9));
        switch (what) {
            case 0: return nowPort.rows;
            case 1: return nowPort.bids;
            case 2: return nowPort.writers;
            case 3: return wall.day;
            case 4: return wall.lines;
            case 5: return wall.lettersFrom(nowPort, 0);
            case 6: return actsInForce();
            case 7: return nowDeeds.lines();
            case 8: return refusedSteps;
            default: return wall.written;
        }
    }

    public int row(int row, int what) throws NoSuchElementException, IllegalArgumentException {
        mustExist(isBelow(row, nowPort.rows));
        mustBe(isWithin(what, 0, 3));
        switch (what) {
            case 0: return nowPort.wide[row];
            case 1: return wall.roomOn(nowPort, row);
            case 2: return wall.linesOn(row);
            default: return wall.actsOn(row);
        }
    }

    public int bid(int bid, int what) throws NoSuchElementException, IllegalArgumentException {
        mustExist(isBelow(bid, nowPort.bids));
        mustBe(isWithin(what, 0, 5));
        switch (what) {
            case 0: return wall.act[bid];
            case 1: return nowPort.letters[bid];
            case 2: return nowPort.act[bid];
            case 3: return wall.slips[bid];
            case 4: return nowPort.whoKnows(bid);
            default: return wall.linesOfBid(bid);
        }
    }

    public int writer(int writer, int what) throws NoSuchElementException, IllegalArgumentException {
        mustExist(isBelow(writer, nowPort.writers));
        mustBe(isWithin(what, 0, 4));
        switch (what) {
            case 0: return nowPort.reach[writer];
            case 1: return nowPort.chalk[writer];
            case 2: return wall.chalk[writer];
            case 3: return nowPort.knows[writer];
            default: return wall.linesBy(writer);
        }
    }

    public int line(int line, int what) throws NoSuchElementException, IllegalArgumentException {
        mustExist(isBelow(line, wall.lines));
        mustBe(isWithin(what, 0, 4));
        switch (what) {
            case 0: return wall.lineBid[line];
            case 1: return wall.lineAct[line];
            case 2: return wall.lineRow[line];
            case 3: return wall.lineWriter[line];
            default: return forceOf(line);
        }
    }

    public int kin(int act) throws IllegalArgumentException {
        mustBe(isBelow(act, ACTS));
        return nowPort.kin[act];
    }

    public int would(int row, int letters, int place, int writer, int act, int day, int reach, int old)
            throws IllegalArgumentException {
        mustBe(isBelow(row, MOST_ROWS) && isWithin(letters, 1, MOST_LETTERS)
                && isBelow(place, MOST_LINES) && isBelow(writer, MOST_WRITERS) && isBelow(act, ACTS)
                && isWithin(day, 0, MOST_DAY) && isWithin(reach, 0, MOST_REACH)
                && isBelow(old, MOST_LINES));
        given[0] = row;
        given[1] = letters;
        given[2] = place;
        given[3] = writer;
        given[4] = act;
        given[5] = day;
        given[6] = reach;
        given[7] = old;
        return nowLaw.weigh(given);
    }

    public int force(int matter, int what) throws IllegalArgumentException {
        mustBe(isBelow(matter, MATTERS) && isWithin(what, 0, 1));
        int line = lineInForce(matter);
        if (line == NONE) {
            return NONE;
        }
        return what == 0 ? wall.lineAct[line] : line;
    }

    public int torn() {
        int acts = wall.actsStanding();
        int matters = 0;
        for (int matter = 0; matter < MATTERS; matter++) {
            if ((acts >> (2 * matter) & 3) == 3) {
                matters |= 1 << matter;
            }
        }
        return matters;
    }

    public boolean can(int writer, int bid, int row) throws NoSuchElementException {
        mustExist(isBelow(writer, nowPort.writers) && isBelow(bid, nowPort.bids)
                && isBelow(row, nowPort.rows));
        return wall.mayWrite(nowPort, writer, bid, row);
    }

    public int send(int bids) throws IllegalArgumentException {
        mustBe(areBits(bids, nowPort.bids));
        int sent = NONE;
        for (int group = 0; group < 1 << nowPort.writers; group++) {
            boolean fewer = sent == NONE || Integer.bitCount(group) < Integer.bitCount(sent);
            if (fewer && (nowPort.knownTo(group) & bids) == bids) {
                sent = group;
            }
        }
        return sent;
    }

    public int lost(int bids) throws IllegalArgumentException {
        mustBe(areBits(bids, nowPort.bids));
        for (int bid = 0; bid < nowPort.bids; bid++) {
            if (hasBit(bids, bid) && nowPort.whoKnows(bid) == 0) {
                return bid;
            }
        }
        return NONE;
    }

    public int path(int from, int to) throws IllegalArgumentException {
        mustBe(isBelow(from, ACTS) && isBelow(to, ACTS));
        int act = from;
        for (int slips = 0; slips < ACTS && act != NONE; slips++) {
            if (act == to) {
                return slips;
            }
            act = nowPort.kin[act];
        }
        return NONE;
    }

    public int comes(int act) throws IllegalArgumentException {
        mustBe(isBelow(act, ACTS));
        int acts = 0;
        int now = act;
        for (int slips = 0; slips < ACTS && now != NONE; slips++) {
            acts |= 1 << now;
            now = nowPort.kin[now];
        }
        return acts;
    }

    public int fits(int bids) throws IllegalArgumentException {
        mustBe(areBits(bids, nowPort.bids));
        fitting.search(nowPort, bids);
        return fitting.most;
    }

    public int fitted(int bids, int bid) throws NoSuchElementException, IllegalArgumentException {
        mustExist(isBelow(bid, nowPort.bids));
        mustBe(areBits(bids, nowPort.bids));
        fitting.search(nowPort, bids);
        return fitting.best[bid];
    }

    public int stood(int what) throws IllegalArgumentException {
        mustBe(isWithin(what, 0, 2));
        inquest.hold(nowPort.bids, wall.act, nowDeeds);
        switch (what) {
            case 0: return inquest.sets;
            case 1: return inquest.first;
            default: return inquest.sure;
        }
    }

    public int ask(int what) throws IllegalArgumentException {
        mustBe(isWithin(what, 0, 1));
        inquest.hold(nowPort.bids, wall.act, nowDeeds);
        int act = inquest.bestQuestion(nowDeeds);
        if (act == NONE || what == 0) {
            return act;
        }
        return inquest.leftAtWorst(act);
    }

    public long still(int bid, int q, int n, int act, int part)
            throws NoSuchElementException, IllegalArgumentException {
        mustExist(isBelow(bid, nowPort.bids));
        mustBe(isWithin(q, 0, SIXTEEN) && isWithin(n, 0, MOST_STILL) && isBelow(act, ACTS)
                && isWithin(part, 0, 1));
        long above = chanceAfter(wall.act[bid], q, n, act);
        long below = 1L << (4 * n);
        // Below stands a power of 2, so that halving alone brings the fraction to least terms.
        for (int i = 0; i < 4 * n && above % 2 == 0; i++) {
            above /= 2;
            below /= 2;
        }
        return part == 0 ? above : below;
    }

    public int crews(int u, int v, int what) throws IllegalArgumentException {
        mustBe(isWithin(u, 0, MOST_CREW_NUMBER) && isWithin(v, 0, MOST_CREW_NUMBER)
                && isWithin(what, 0, 2));
        int rests = 0;
        int first = NONE;
        int together = 0;
        for (int one = 0; one < nowPort.rows; one++) {
            for (int other = 0; other < nowPort.rows; other++) {
                if (isRest(one, other, u, v)) {
                    if (rests == 0) {
                        first = 10 * one + other;
                        together = nowPort.crewHas(one, other, u, v) + nowPort.crewHas(other, one, u, v);
                    }
                    rests++;
                }
            }
        }
        switch (what) {
            case 0: return rests;
            case 1: return first;
            default: return together;
        }
    }

    public int share(int writer, int writers, int n) throws NoSuchElementException, IllegalArgumentException {
        mustExist(isBelow(writer, nowPort.writers));
        mustBe(areBits(writers, nowPort.writers) && isWithin(n, 0, MOST_SHARED));
        if (!hasBit(writers, writer)) {
            return 0;
        }
        int bound = 0;
        while (bound < MOST_CHALK && nowPort.givenBy(writers, bound + 1) <= n) {
            bound++;
        }
        return Math.min(bound, nowPort.chalk[writer]);
    }

    public int above(int row) throws IllegalArgumentException {
        mustBe(isWithin(row, 0, MOST_ROWS));
        return wall.lettersFrom(nowPort, row);
    }

    public int mightiest(int what) throws IllegalArgumentException {
        mustBe(isWithin(what, 0, 1));
        int best = NONE;
        int most = 0;
        for (int line = 0; line < wall.lines; line++) {
            int force = forceOf(line);
            if (best == NONE || force > most) {
                best = line;
                most = force;
            }
        }
        return what == 0 ? best : most;
    }

    public int missing() {
        int bids = 0;
        for (int bid = 0; bid < nowPort.bids; bid++) {
            if (!wall.bearsAsTold(nowPort, bid)) {
                bids |= 1 << bid;
            }
        }
        return bids;
    }

    public int idle() {
        int writers = 0;
        for (int writer = 0; writer < nowPort.writers; writer++) {
            if (!wall.mayWriteAny(nowPort, writer)) {
                writers |= 1 << writer;
            }
        }
        return writers;
    }

    public int ends(int row, int what) throws NoSuchElementException, IllegalArgumentException {
        mustExist(isBelow(row, nowPort.rows));
        mustBe(isWithin(what, 0, 1));
        int end = NONE;
        for (int line = 0; line < wall.lines; line++) {
            if (wall.lineRow[line] == row && (end == NONE || what == 1)) {
                end = line;
            }
        }
        return end;
    }

    public int loud(int writer) throws NoSuchElementException {
        mustExist(isBelow(writer, nowPort.writers));
        int together = 0;
        for (int line = 0; line < wall.lines; line++) {
            if (wall.lineWriter[line] == writer) {
                together += forceOf(line);
            }
        }
        return together;
    }

    public int years(int seed, int dawns, int q, int m, int what) throws IllegalArgumentException {
        mustBe(areYears(dawns, q, m) && isWithin(what, 0, 3));
        dawnsPlayed.play(nowPort, wall, seed, dawns, q, m);
        switch (what) {
            case 0: return dawnsPlayed.written;
            case 1: return dawnsPlayed.slips;
            case 2: return dawnsPlayed.rains;
            default: return dawnsPlayed.kept;
        }
    }

    public int span(int seed, int many, int dawns, int q, int m, int what, int bid)
            throws IllegalArgumentException {
        mustBe(isWithin(many, 1, MOST_SEEDS) && areYears(dawns, q, m) && isWithin(what, 0, 2)
                && isBelow(bid, nowPort.bids));
        int fewest = MOST_BIDS;
        int most = 0;
        int keeping = 0;
        for (int i = 0; i < many; i++) {
            dawnsPlayed.play(nowPort, wall, seed + i, dawns, q, m);
            int kept = Integer.bitCount(dawnsPlayed.kept);
            fewest = Math.min(fewest, kept);
            most = Math.max(most, kept);
            keeping += hasBit(dawnsPlayed.kept, bid) ? 1 : 0;
        }
        switch (what) {
            case 0: return fewest;
            case 1: return most;
            default: return keeping;
        }
    }

    public int image() {
        return past.keepImage(wall) ? past.images : -1;
    }

    public int restore() {
        if (!past.takeImage(wall)) {
            return -1;
        }
        refusedSteps = 0;
        return past.images;
    }

    public int status(int what) {
        switch (what) {
            case 0: return refusedNoSuch;
            case 1: return refusedIllegal;
            default: return NONE;
        }
    }

    public int count(int what) {
        switch (what) {
            case 0: return past.images;
            case 1: return tape.many;
            case 2: return past.works;
            default: return NONE;
        }
    }

    private void mustExist(boolean fine) {
        if (!fine) {
            refusedNoSuch++;
            throw new NoSuchElementException("no such row, bid, writer or line");
        }
    }

    private void mustBe(boolean fine) {
        if (!fine) {
            refusedIllegal++;
            throw new IllegalArgumentException("a number that is none such");
        }
    }

    private static boolean isBelow(int number, int bound) {
        return number >= 0 && number < bound;
    }

    private static boolean isWithin(int number, int least, int most) {
        return number >= least && number <= most;
    }

    private static boolean areBits(int bits, int many) {
        return bits >= 0 && bits < 1 << many;
    }

    private static boolean hasBit(int bits, int place) {
        return (bits >> place & 1) == 1;
    }

    private static boolean areYears(int dawns, int q, int m) {
        return isWithin(dawns, 1, MOST_DAWNS) && isWithin(q, 0, SIXTEEN) && isWithin(m, 0, SIXTEEN);
    }

    private int forceOf(int line) {
        wall.describe(nowPort, line, given);
        return nowLaw.weigh(given);
    }

    private int lineInForce(int matter) {
        int best = NONE;
        int most = 0;
        for (int line = 0; line < wall.lines; line++) {
            if (wall.lineAct[line] / 2 == matter) {
                int force = forceOf(line);
                if (force > most) {
                    best = line;
                    most = force;
                }
            }
        }
        return best;
    }

    private int actsInForce() {
        int acts = 0;
        for (int matter = 0; matter < MATTERS; matter++) {
            int line = lineInForce(matter);
            if (line != NONE) {
                acts |= 1 << wall.lineAct[line];
            }
        }
        return acts;
    }

    /** How likely it is, in parts of 16 to the n, that an act has become another behind n dawns. */
    private long chanceAfter(int from, int q, int n, int to) {
        for (int act = 0; act < ACTS; act++) {
            chances[act] = act == from ? 1 : 0;
        }
        for (int dawn = 0; dawn < n; dawn++) {
            for (int act = 0; act < ACTS; act++) {
                chancesNext[act] = 0;
            }
            for (int act = 0; act < ACTS; act++) {
                int slipped = nowPort.kin[act] == NONE ? act : nowPort.kin[act];
                chancesNext[act] += chances[act] * (SIXTEEN - q);
                chancesNext[slipped] += chances[act] * q;
            }
            System.arraycopy(chancesNext, 0, chances, 0, ACTS);
        }
        return chances[to];
    }

    private boolean isRest(int one, int other, int u, int v) {
        int oneHas = nowPort.crewHas(one, other, u, v);
        int otherHas = nowPort.crewHas(other, one, u, v);
        for (int row = 0; row < nowPort.rows; row++) {
            if (nowPort.crewHas(row, other, u, v) > oneHas || nowPort.crewHas(row, one, u, v) > otherHas) {
                return false;
            }
        }
        return true;
    }

    /** The bytes that were fed, and the reading of a text of them up to its first FAULT. */
    private static final class Tape {
        private static final int FED = 20;
        private static final int BLANK = 32;
        // Far above every limit of the document, far below where an int would wrap.
        private static final int HUGE = 100000;

        private final int[] bytes = new int[MOST_TAPE];
        private int many;
        private int end;
        private int at;
        private int faultKind;
        private int faultPlace = NONE;

        boolean hasRoom() {
            return many + FED <= MOST_TAPE;
        }

        void put(int number) {
            for (int shift = 24; shift >= 0 && many < bytes.length; shift -= 8) {
                bytes[many] = number >> shift & 255;
                many++;
            }
        }

        /** Begins to read the first n bytes as a text, and leaves the TAPE empty for what comes. */
        void open(int n) {
            end = Math.min(n, bytes.length);
            many = 0;
            at = 0;
            faultKind = 0;
            faultPlace = NONE;
        }

        boolean isFine() {
            return faultKind == 0;
        }

        int faultAnswer() {
            return faultKind - 10;
        }

        void wrong(int kind, int place) {
            if (faultKind == 0) {
                faultKind = kind;
                faultPlace = place;
            }
        }

        /** The place of what comes next, behind blanks. */
        int next() {
            while (at < end && bytes[at] == BLANK) {
                at++;
            }
            return at;
        }

        boolean hasMore() {
            return faultKind == 0 && next() < end;
        }

        boolean comesNumber() {
            return faultKind == 0 && next() < end && isDigit(bytes[at]);
        }

        boolean takesSign(char sign) {
            boolean comes = faultKind == 0 && next() < end && bytes[at] == sign;
            if (comes) {
                at++;
            }
            return comes;
        }

        void needSign(char sign) {
            if (faultKind == 0 && next() < end && bytes[at] == sign) {
                at++;
            } else {
                wrong(CANT_STAND, at);
            }
        }

        boolean takesWord(String word) {
            if (faultKind != 0 || next() >= end) {
                return false;
            }
            int stop = at;
            while (stop < end && isSmallLetter(bytes[stop])) {
                stop++;
            }
            if (stop - at != word.length()) {
                return false;
            }
            for (int i = 0; i < word.length(); i++) {
                if (bytes[at + i] != word.charAt(i)) {
                    return false;
                }
            }
            at = stop;
            return true;
        }

        /** A number from least to most; whoever uses it as an index asks isFine() first. */
        int number(int least, int most) {
            int start = next();
            int value = 0;
            while (at < end && isDigit(bytes[at])) {
                if (value < HUGE) {
                    value = value * 10 + bytes[at] - '0';
                }
                at++;
            }
            if (at == start) {
                wrong(CANT_STAND, start);
            } else if (value < least || value > most) {
                wrong(NONE_SUCH, start);
            }
            return value;
        }

        private static boolean isDigit(int sign) {
            return sign >= '0' && sign <= '9';
        }

        private static boolean isSmallLetter(int sign) {
            return sign >= 'a' && sign <= 'z';
        }
    }

    /** What a PORT's text tells: nothing of it changes by WORK. */
    private static final class Port {
        private static final int ROW = 0;
        private static final int BID = 1;
        private static final int KIN = 2;
        private static final int WRITER = 3;
        private static final int KNOWS = 4;

        private int rows;
        private final int[] wide = new int[MOST_ROWS];
        private int bids;
        private final int[] act = new int[MOST_BIDS];
        private final int[] letters = new int[MOST_BIDS];
        private int writers;
        private final int[] reach = new int[MOST_WRITERS];
        private final int[] chalk = new int[MOST_WRITERS];
        private final int[] knows = new int[MOST_WRITERS];
        private final int[] kin = new int[ACTS];

        Port() {
            clear();
        }

        private void clear() {
            rows = 0;
            bids = 0;
            writers = 0;
            for (int i = 0; i < ACTS; i++) {
                kin[i] = NONE;
            }
        }

        void read(Tape text) {
            clear();
            for (int clauses = 0; clauses <= MOST_CLAUSES && text.hasMore(); clauses++) {
                readClause(text, clauses);
                text.needSign(';');
            }
        }

        private void readClause(Tape text, int ahead) {
            int place = text.next();
            int word = clauseWord(text);
            if (word == NONE) {
                text.wrong(CANT_STAND, place);
            } else if (ahead == MOST_CLAUSES || isFull(word)) {
                text.wrong(TOO_MANY, place);
            } else if (word == KIN) {
                readKin(text);
            } else {
                readTold(text, word);
            }
        }

        private static int clauseWord(Tape text) {
            if (text.takesWord("row")) {
                return ROW;
            }
            if (text.takesWord("bid")) {
                return BID;
            }
            if (text.takesWord("kin")) {
                return KIN;
            }
            if (text.takesWord("writer")) {
                return WRITER;
            }
            return text.takesWord("knows") ? KNOWS : NONE;
        }

        private boolean isFull(int word) {
            switch (word) {
                case ROW: return rows >= MOST_ROWS;
                case BID: return bids >= MOST_BIDS;
                case WRITER: return writers >= MOST_WRITERS;
                default: return false;
            }
        }

        private void readKin(Tape text) {
            int from = text.number(0, ACTS - 1);
            int place = text.next();
            int to = text.number(0, ACTS - 1);
            if (to == from) {
                text.wrong(NONE_SUCH, place);
            }
            if (text.isFine()) {
                kin[from] = to;
            }
        }

        private void readTold(Tape text, int word) {
            switch (word) {
                case ROW:
                    addRow(text, text.number(1, MOST_WIDE));
                    break;
                case BID:
                    addBid(text, text.number(0, ACTS - 1), text.number(1, MOST_LETTERS));
                    break;
                case WRITER:
                    addWriter(text, text.number(0, MOST_REACH), text.number(1, MOST_CHALK));
                    break;
                default:
                    addKnown(text, text.number(0, writers - 1), text.number(0, bids - 1));
                    break;
            }
        }

        private void addRow(Tape text, int width) {
            if (text.isFine()) {
                wide[rows] = width;
                rows++;
            }
        }

        private void addBid(Tape text, int bidden, int length) {
            if (text.isFine()) {
                act[bids] = bidden;
                letters[bids] = length;
                bids++;
            }
        }

        private void addWriter(Tape text, int reached, int letterCount) {
            if (text.isFine()) {
                reach[writers] = reached;
                chalk[writers] = letterCount;
                knows[writers] = 0;
                writers++;
            }
        }

        private void addKnown(Tape text, int writer, int bid) {
            if (text.isFine()) {
                knows[writer] |= 1 << bid;
            }
        }

        int whoKnows(int bid) {
            int who = 0;
            for (int writer = 0; writer < writers; writer++) {
                if (hasBit(knows[writer], bid)) {
                    who |= 1 << writer;
                }
            }
            return who;
        }

        int knownTo(int group) {
            int known = 0;
            for (int writer = 0; writer < writers; writer++) {
                if (hasBit(group, writer)) {
                    known |= knows[writer];
                }
            }
            return known;
        }

        /** How many letters of chalk a group gets, if none of them gets more than a bound. */
        int givenBy(int group, int bound) {
            int sum = 0;
            for (int writer = 0; writer < writers; writer++) {
                if (hasBit(group, writer)) {
                    sum += Math.min(bound, chalk[writer]);
                }
            }
            return sum;
        }

        int crewHas(int own, int others, int u, int v) {
            if (own == others) {
                return wide[own] / 2 - u;
            }
            return own > others ? wide[own] + v : wide[own];
        }
    }

    /** All that WORK changes; a line's place in the rows of lines is when it was written. */
    private static final class Wall {
        private int day;
        private int written;
        private int lines;
        private final int[] lineBid = new int[MOST_LINES];
        private final int[] lineAct = new int[MOST_LINES];
        private final int[] lineRow = new int[MOST_LINES];
        private final int[] lineWriter = new int[MOST_LINES];
        private final int[] act = new int[MOST_BIDS];
        private final int[] slips = new int[MOST_BIDS];
        private final int[] chalk = new int[MOST_WRITERS];

        void begin(Port port) {
            day = 0;
            written = 0;
            for (int bid = 0; bid < port.bids; bid++) {
                act[bid] = port.act[bid];
                slips[bid] = 0;
            }
            whiten(port);
        }

        void become(Wall other) {
            day = other.day;
            written = other.written;
            lines = other.lines;
            System.arraycopy(other.lineBid, 0, lineBid, 0, MOST_LINES);
            System.arraycopy(other.lineAct, 0, lineAct, 0, MOST_LINES);
            System.arraycopy(other.lineRow, 0, lineRow, 0, MOST_LINES);
            System.arraycopy(other.lineWriter, 0, lineWriter, 0, MOST_LINES);
            System.arraycopy(other.act, 0, act, 0, MOST_BIDS);
            System.arraycopy(other.slips, 0, slips, 0, MOST_BIDS);
            System.arraycopy(other.chalk, 0, chalk, 0, MOST_WRITERS);
        }

        private void whiten(Port port) {
            lines = 0;
            for (int writer = 0; writer < port.writers; writer++) {
                chalk[writer] = port.chalk[writer];
            }
        }

        boolean mayWrite(Port port, int writer, int bid, int row) {
            int letters = port.letters[bid];
            return hasBit(port.knows[writer], bid) && row <= port.reach[writer]
                    && letters <= roomOn(port, row) && letters <= chalk[writer] && lines < MOST_LINES;
        }

        boolean mayWriteAny(Port port, int writer) {
            for (int bid = 0; bid < port.bids; bid++) {
                for (int row = 0; row < port.rows; row++) {
                    if (mayWrite(port, writer, bid, row)) {
                        return true;
                    }
                }
            }
            return false;
        }

        boolean write(Port port, int writer, int bid, int row) {
            if (!mayWrite(port, writer, bid, row)) {
                return false;
            }
            lineBid[lines] = bid;
            lineAct[lines] = act[bid];
            lineRow[lines] = row;
            lineWriter[lines] = writer;
            lines++;
            written++;
            chalk[writer] -= port.letters[bid];
            return true;
        }

        boolean slip(Port port, int bid) {
            int to = port.kin[act[bid]];
            if (to == NONE) {
                return false;
            }
            act[bid] = to;
            slips[bid]++;
            return true;
        }

        boolean rain(int lowest) {
            int left = 0;
            for (int line = 0; line < lines; line++) {
                if (lineRow[line] >= lowest) {
                    lineBid[left] = lineBid[line];
                    lineAct[left] = lineAct[line];
                    lineRow[left] = lineRow[line];
                    lineWriter[left] = lineWriter[line];
                    left++;
                }
            }
            boolean any = left < lines;
            lines = left;
            return any;
        }

        boolean night(Port port) {
            if (day >= MOST_DAY) {
                return false;
            }
            turnDay(port);
            return true;
        }

        /** A night without the bound of days, as YEARS want it. */
        void turnDay(Port port) {
            whiten(port);
            day++;
        }

        int lettersOn(Port port, int row) {
            int letters = 0;
            for (int line = 0; line < lines; line++) {
                if (lineRow[line] == row) {
                    letters += port.letters[lineBid[line]];
                }
            }
            return letters;
        }

        int lettersFrom(Port port, int lowest) {
            int letters = 0;
            for (int row = lowest; row < port.rows; row++) {
                letters += lettersOn(port, row);
            }
            return letters;
        }

        int roomOn(Port port, int row) {
            return port.wide[row] - lettersOn(port, row);
        }

        int linesOn(int row) {
            return timesIn(lineRow, lines, row);
        }

        int linesOfBid(int bid) {
            return timesIn(lineBid, lines, bid);
        }

        int linesBy(int writer) {
            return timesIn(lineWriter, lines, writer);
        }

        /** How often a number stands among the first ones of a row of numbers. */
        private static int timesIn(int[] numbers, int first, int wanted) {
            int times = 0;
            for (int i = 0; i < first && i < numbers.length; i++) {
                if (numbers[i] == wanted) {
                    times++;
                }
            }
            return times;
        }

        int actsOn(int row) {
            int acts = 0;
            for (int line = 0; line < lines; line++) {
                if (lineRow[line] == row) {
                    acts |= 1 << lineAct[line];
                }
            }
            return acts;
        }

        int actsStanding() {
            int acts = 0;
            for (int line = 0; line < lines; line++) {
                acts |= 1 << lineAct[line];
            }
            return acts;
        }

        boolean bearsAsTold(Port port, int bid) {
            for (int line = 0; line < lines; line++) {
                if (lineBid[line] == bid && lineAct[line] == port.act[bid]) {
                    return true;
                }
            }
            return false;
        }

        int keptAsTold(Port port) {
            int kept = 0;
            for (int bid = 0; bid < port.bids; bid++) {
                if (act[bid] == port.act[bid]) {
                    kept |= 1 << bid;
                }
            }
            return kept;
        }

        /** What a LAW may ask of a line, in the order of its words. */
        void describe(Port port, int line, int[] given) {
            given[0] = lineRow[line];
            given[1] = port.letters[lineBid[line]];
            given[2] = timesIn(lineRow, line, lineRow[line]);
            given[3] = lineWriter[line];
            given[4] = lineAct[line];
            given[5] = day;
            given[6] = port.reach[lineWriter[line]];
            given[7] = line;
        }
    }

    /** A LAW, kept with every operation behind the values that it joins. */
    private static final class Law {
        private static final int GIVEN = 1000;
        private static final int PLUS = 2000;
        private static final int MINUS = 2001;
        private static final int TIMES = 2002;
        private static final int OVER = 2003;
        private static final int LEFT = 2004;
        private static final int LEAST = 2005;
        private static final int MOST = 2006;

        private final int[] code = new int[MOST_LAW];
        private final int[] stack = new int[MOST_LAW];
        private int many;

        Law() {
            becomePlain();
        }

        void becomePlain() {
            many = 0;
            put(GIVEN);
            put(10);
            put(TIMES);
            put(GIVEN + 1);
            put(PLUS);
        }

        private void put(int what) {
            if (many < code.length) {
                code[many] = what;
                many++;
            }
        }

        void read(Tape text) {
            many = 0;
            readSum(text, 0);
            if (text.hasMore()) {
                text.wrong(CANT_STAND, text.next());
            }
        }

        private void readSum(Tape text, int open) {
            readProduct(text, open);
            for (int i = 0; i < MOST_LAW; i++) {
                int operation = text.takesSign('+') ? PLUS : text.takesSign('-') ? MINUS : NONE;
                if (operation == NONE) {
                    return;
                }
                readProduct(text, open);
                put(operation);
            }
        }

        private void readProduct(Tape text, int open) {
            readUnit(text, open);
            for (int i = 0; i < MOST_LAW; i++) {
                int operation = text.takesSign('*') ? TIMES
                        : text.takesSign('/') ? OVER : text.takesSign('%') ? LEFT : NONE;
                if (operation == NONE) {
                    return;
                }
                readUnit(text, open);
                put(operation);
            }
        }

        private void readUnit(Tape text, int open) {
            int place = text.next();
            int word = givenWord(text);
            if (word != NONE) {
                put(GIVEN + word);
            } else if (text.comesNumber()) {
                put(text.number(0, 999));
            } else {
                readOpened(text, open, place);
            }
        }

        private void readOpened(Tape text, int open, int place) {
            boolean bracket = text.takesSign('(');
            boolean least = !bracket && text.takesWord("least");
            if (!bracket && !least && !text.takesWord("most")) {
                text.wrong(CANT_STAND, place);
            } else if (open >= MOST_OPEN) {
                text.wrong(TOO_MANY, place);
            } else if (bracket) {
                readSum(text, open + 1);
                text.needSign(')');
            } else {
                text.needSign('[');
                readSum(text, open + 1);
                text.needSign(',');
                readSum(text, open + 1);
                text.needSign(']');
                put(least ? LEAST : MOST);
            }
        }

        private static int givenWord(Tape text) {
            if (text.takesWord("row")) {
                return 0;
            }
            if (text.takesWord("letters")) {
                return 1;
            }
            if (text.takesWord("place")) {
                return 2;
            }
            if (text.takesWord("writer")) {
                return 3;
            }
            if (text.takesWord("act")) {
                return 4;
            }
            if (text.takesWord("day")) {
                return 5;
            }
            if (text.takesWord("reach")) {
                return 6;
            }
            return text.takesWord("old") ? 7 : NONE;
        }

        int weigh(int[] given) {
            int top = 0;
            for (int i = 0; i < many && top < stack.length; i++) {
                int what = code[i];
                if (what < GIVEN) {
                    stack[top] = what;
                    top++;
                } else if (what - GIVEN < given.length) {
                    stack[top] = given[what - GIVEN];
                    top++;
                } else if (top >= 2) {
                    top--;
                    stack[top - 1] = joined(what, stack[top - 1], stack[top]);
                }
            }
            return stack[0];
        }

        private static int joined(int operation, int a, int b) {
            switch (operation) {
                case PLUS: return a + b;
                case MINUS: return a - b;
                case TIMES: return a * b;
                case OVER: return b == 0 ? 0 : a / b;
                case LEFT: return b == 0 ? 0 : a % b;
                case LEAST: return Math.min(a, b);
                default: return Math.max(a, b);
            }
        }
    }

    /** WORK as it was read: its STEPS in order, an again ahead of those that it repeats. */
    private static final class Plan {
        private static final int WRITE = 0;
        private static final int SLIP = 1;
        private static final int RAIN = 2;
        private static final int NIGHT = 3;
        private static final int AGAIN = 4;
        // The shortest STEP, night and its sign, has six bytes.
        private static final int MOST_STEPS = MOST_WORK / 6;

        private final int[] kind = new int[MOST_STEPS];
        private final int[] first = new int[MOST_STEPS];
        private final int[] second = new int[MOST_STEPS];
        private final int[] third = new int[MOST_STEPS];
        private int many;
        private int begun;
        private int done;
        private int refused;

        void read(Tape text, Port port) {
            many = 0;
            readSteps(text, port, 0);
        }

        private void readSteps(Tape text, Port port, int open) {
            for (int i = 0; i < MOST_WORK && text.isFine(); i++) {
                boolean over = open == 0 ? !text.hasMore() : text.takesSign(']');
                if (over) {
                    return;
                }
                readStep(text, port, open);
                text.needSign(';');
            }
        }

        private void readStep(Tape text, Port port, int open) {
            int place = text.next();
            if (text.takesWord("write")) {
                put(text, WRITE, text.number(0, port.writers - 1), text.number(0, port.bids - 1),
                        text.number(0, port.rows - 1));
            } else if (text.takesWord("slip")) {
                put(text, SLIP, text.number(0, port.bids - 1), 0, 0);
            } else if (text.takesWord("rain")) {
                put(text, RAIN, text.number(1, MOST_RAIN), 0, 0);
            } else if (text.takesWord("night")) {
                put(text, NIGHT, 0, 0, 0);
            } else if (!text.takesWord("again")) {
                text.wrong(CANT_STAND, place);
            } else if (open >= MOST_OPEN) {
                text.wrong(TOO_MANY, place);
            } else {
                readAgain(text, port, open + 1);
            }
        }

        private void readAgain(Tape text, Port port, int open) {
            int here = many;
            int times = text.number(0, MOST_AGAIN);
            text.needSign('[');
            put(text, AGAIN, times, 0, 0);
            readSteps(text, port, open);
            if (text.isFine() && here < many) {
                second[here] = many;
            }
        }

        private void put(Tape text, int what, int a, int b, int c) {
            if (text.isFine() && many < MOST_STEPS) {
                kind[many] = what;
                first[many] = a;
                second[many] = b;
                third[many] = c;
                many++;
            }
        }

        void carryOut(Wall wall, Port port) {
            begun = 0;
            done = 0;
            refused = 0;
            doSteps(wall, port, 0, many, 0);
        }

        private void doSteps(Wall wall, Port port, int from, int to, int open) {
            int step = from;
            while (step < to && begun < MOST_BEGUN) {
                begun++;
                if (kind[step] == AGAIN) {
                    for (int i = 0; i < first[step] && open < MOST_OPEN; i++) {
                        doSteps(wall, port, step + 1, second[step], open + 1);
                    }
                    step = second[step];
                    continue;
                }
                if (attempt(wall, port, step)) {
                    done++;
                } else {
                    refused++;
                }
                step++;
            }
        }

        private boolean attempt(Wall wall, Port port, int step) {
            switch (kind[step]) {
                case WRITE: return wall.write(port, first[step], second[step], third[step]);
                case SLIP: return wall.slip(port, first[step]);
                case RAIN: return wall.rain(first[step]);
                default: return wall.night(port);
            }
        }
    }

    /** Which ACTS were done, and which were not, as bits. */
    private static final class Deeds {
        private int yes;
        private int no;

        void clear() {
            yes = 0;
            no = 0;
        }

        int lines() {
            return Integer.bitCount(yes | no);
        }

        void read(Tape text) {
            clear();
            for (int i = 0; i <= ACTS && text.hasMore(); i++) {
                int place = text.next();
                int act = text.number(0, ACTS - 1);
                if (hasBit(yes | no, act)) {
                    text.wrong(NONE_SUCH, place);
                }
                add(text, act);
                text.needSign(';');
            }
        }

        private void add(Tape text, int act) {
            int was = text.number(0, 1);
            if (text.isFine() && was == 1) {
                yes |= 1 << act;
            } else if (text.isFine()) {
                no |= 1 << act;
            }
        }
    }

    /** The walls as they were ahead of WORKS, and the IMAGES; a wall kept here never changes. */
    private static final class Past {
        private final Wall[] ahead = new Wall[MOST_WORKS];
        private int works;
        private final Image[] kept = new Image[MOST_IMAGES];
        private int images;

        void clear() {
            works = 0;
            images = 0;
        }

        void keepWork(Wall wall) {
            if (works < MOST_WORKS) {
                ahead[works] = copied(wall);
                works++;
            }
        }

        boolean takeBackWork(Wall wall) {
            Wall before = works > 0 ? ahead[works - 1] : null;
            if (before == null) {
                return false;
            }
            works--;
            wall.become(before);
            return true;
        }

        boolean keepImage(Wall wall) {
            if (images == MOST_IMAGES) {
                return false;
            }
            Image image = new Image(copied(wall), works);
            copyWorks(ahead, image.ahead, works);
            kept[images] = image;
            images++;
            return true;
        }

        boolean takeImage(Wall wall) {
            Image image = images > 0 ? kept[images - 1] : null;
            if (image == null) {
                return false;
            }
            images--;
            wall.become(image.wall);
            works = image.works;
            copyWorks(image.ahead, ahead, works);
            return true;
        }

        private static Wall copied(Wall wall) {
            Wall copy = new Wall();
            copy.become(wall);
            return copy;
        }

        private static void copyWorks(Wall[] from, Wall[] to, int many) {
            for (int i = 0; i < many && i < MOST_WORKS; i++) {
                to[i] = from[i];
            }
        }
    }

    /** An IMAGE: the wall, and the walls to which undoing goes back. */
    private static final class Image {
        private final Wall wall;
        private final int works;
        private final Wall[] ahead = new Wall[MOST_WORKS];

        Image(Wall wall, int works) {
            this.wall = wall;
            this.works = works;
        }
    }

    /** The search for FITS: the ways are gone through in their order, and only a better one counts. */
    private static final class Fitting {
        private final int[] room = new int[MOST_ROWS];
        private final int[] now = new int[MOST_BIDS];
        private final int[] best = new int[MOST_BIDS];
        private Port port = null;
        private int bids;
        private int most;

        void search(Port where, int which) {
            port = where;
            bids = 0;
            most = NONE;
            int widest = 0;
            for (int row = 0; row < where.rows; row++) {
                room[row] = where.wide[row];
                widest = Math.max(widest, room[row]);
            }
            int letters = 0;
            for (int bid = 0; bid < where.bids; bid++) {
                // A BID that no ROW can take would only make the hope for more letters too great.
                if (hasBit(which, bid) && where.letters[bid] <= widest) {
                    bids |= 1 << bid;
                    letters += where.letters[bid];
                }
            }
            place(0, 0, letters);
        }

        /** Places the BIDS from one on, which have left letters together, behind letters placed. */
        private void place(int bid, int letters, int left) {
            if (port == null || letters + Math.min(left, roomLeft()) <= most) {
                return;
            }
            if (bid >= port.bids) {
                most = letters;
                System.arraycopy(now, 0, best, 0, MOST_BIDS);
                return;
            }
            int length = hasBit(bids, bid) ? port.letters[bid] : 0;
            for (int row = 0; row < port.rows && length > 0; row++) {
                if (length <= room[row] && !isLikeLower(row)) {
                    room[row] -= length;
                    now[bid] = row;
                    place(bid + 1, letters + length, left - length);
                    room[row] += length;
                }
            }
            now[bid] = NONE;
            place(bid + 1, letters, left - length);
        }

        private int roomLeft() {
            int sum = 0;
            for (int row = 0; row < port.rows; row++) {
                sum += room[row];
            }
            return sum;
        }

        /** On a ROW with as much room as a lower one nothing better can come than came there. */
        private boolean isLikeLower(int row) {
            for (int lower = 0; lower < row; lower++) {
                if (room[lower] == room[row]) {
                    return true;
                }
            }
            return false;
        }
    }

    /** Which sets of BIDS the DEEDS leave. */
    private static final class Inquest {
        private final int[] setsWith = new int[ACTS];
        private int sets;
        private int first;
        private int sure;

        void hold(int bids, int[] actOf, Deeds deeds) {
            sets = 0;
            first = NONE;
            sure = 0;
            for (int act = 0; act < ACTS; act++) {
                setsWith[act] = 0;
            }
            for (int set = 0; set < 1 << bids; set++) {
                int acts = actsOfSet(set, bids, actOf);
                if ((acts & deeds.yes) == deeds.yes && (acts & deeds.no) == 0) {
                    addSet(set, acts);
                }
            }
        }

        private void addSet(int set, int acts) {
            if (sets == 0) {
                first = set;
                sure = set;
            }
            sure &= set;
            sets++;
            for (int act = 0; act < ACTS; act++) {
                setsWith[act] += hasBit(acts, act) ? 1 : 0;
            }
        }

        private static int actsOfSet(int set, int bids, int[] actOf) {
            int acts = 0;
            for (int bid = 0; bid < bids && bid < actOf.length; bid++) {
                if (hasBit(set, bid)) {
                    acts |= 1 << actOf[bid];
                }
            }
            return acts;
        }

        int leftAtWorst(int act) {
            return Math.max(setsWith[act], sets - setsWith[act]);
        }

        int bestQuestion(Deeds deeds) {
            int best = NONE;
            for (int act = 0; act < ACTS; act++) {
                boolean open = !hasBit(deeds.yes | deeds.no, act);
                if (open && (best == NONE || leftAtWorst(act) < leftAtWorst(best))) {
                    best = act;
                }
            }
            return best;
        }
    }

    /** YEARS, played on a wall of their own so that the true one stays as it is. */
    private static final class Dawns {
        private static final int NIGHT_EACH = 4;

        private final Wall wall = new Wall();
        private int seed;
        private int written;
        private int slips;
        private int rains;
        private int kept;

        void play(Port port, Wall from, int seedAtFirst, int dawns, int q, int m) {
            wall.become(from);
            seed = seedAtFirst;
            written = 0;
            slips = 0;
            rains = 0;
            if (port.writers > 0 && port.bids > 0 && port.rows > 0) {
                for (int dawn = 1; dawn <= dawns; dawn++) {
                    playDawn(port, q, m);
                    if (dawn % NIGHT_EACH == 0) {
                        wall.turnDay(port);
                    }
                }
            }
            kept = wall.keptAsTold(port);
        }

        private void playDawn(Port port, int q, int m) {
            int writer = draw(port.writers);
            int bid = draw(port.bids);
            int row = draw(port.rows);
            if (wall.write(port, writer, bid, row)) {
                written++;
            }
            if (draw(SIXTEEN) < q && wall.slip(port, bid)) {
                slips++;
            }
            if (draw(SIXTEEN) < m && wall.rain(1)) {
                rains++;
            }
        }

        private int draw(int by) {
            seed = seed * 1103515245 + 12345;
            int bits = seed >>> 16 & 32767;
            return by > 0 ? bits % by : 0;
        }
    }
}
