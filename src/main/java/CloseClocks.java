import java.util.Arrays;

/**
 * Clocks of a net that keep close to their neighbours. The document (../shared/DOC.md) says what
 * each call answers; its words in capitals are the names used here.
 */
public final class CloseClocks {
    public static final int NONE = -100000001, UNKNOWN = -100000002, OUTSIDE = -100000003, STATE = -100000004, FULL = -100000005;

    private static final int MOST_NODES = 6;
    private static final int MOST_LETTERS = 61;
    private static final int MOST_TICKS = 9000;
    private static final int MOST_TICKS_AT_ONCE = 100;
    private static final int MOST_TICKS_OF_WORST = 12;
    private static final int LONGEST_DELAY = 3;
    private static final int LEAST_RATE = 90;
    private static final int USUAL_RATE = 100;
    private static final int GREATEST_RATE = 110;
    private static final int TICK_OF_GUESS = 100;
    private static final int GREATEST_ERROR = 9;
    private static final int GREATEST_STEP = 500;
    private static final int GREATEST_BOOST = 60;
    private static final int GREATEST_CLOCK_TOLD = 1000000;

    // Nothing is made behind the constructor: all calls of a run share one room.
    private final Page page;
    private final Net shape;
    private final Clocks now;
    private final Clocks kept;
    private final Clocks trial;
    private boolean imageKept;
    private int step;
    private int boost;
    private int netsRead;
    private int ticksEver;

    public CloseClocks() {
        page = new Page();
        shape = new Net();
        now = new Clocks(shape);
        kept = new Clocks(shape);
        trial = new Clocks(shape);
        imageKept = false;
        step = 20;
        boost = 10;
        netsRead = 0;
        ticksEver = 0;
    }

    // ---- texts

    public int letter(int code) {
        if (code < 32 || code > 126) {
            return OUTSIDE;
        }
        if (page.isFull()) {
            return FULL;
        }
        return page.append(code);
    }

    public int blank() {
        return page.empty();
    }

    public int fault() {
        return page.firstFault();
    }

    public int net() {
        if (!page.isNet()) {
            return STATE;
        }
        shape.readFrom(page);
        now.startFrom(page);
        imageKept = false;
        netsRead++;
        page.empty();
        return shape.nodes;
    }

    // ---- what is told

    public int set(int what, int v) {
        if (what < 0 || what > 1 || v < 1 || v > (what == 0 ? GREATEST_STEP : GREATEST_BOOST)) {
            return OUTSIDE;
        }
        int was;
        if (what == 0) {
            was = step;
            step = v;
        } else {
            was = boost;
            boost = v;
        }
        return was;
    }

    public int rate(int node, int v) {
        if (!shape.hasNode(node)) {
            return UNKNOWN;
        }
        if (v < LEAST_RATE || v > GREATEST_RATE) {
            return OUTSIDE;
        }
        int was = now.rates[node];
        now.rates[node] = v;
        return was;
    }

    public int put(int node, int v) {
        if (!shape.hasNode(node)) {
            return UNKNOWN;
        }
        if (v < 0 || v > GREATEST_CLOCK_TOLD) {
            return OUTSIDE;
        }
        int was = now.clockOf(node);
        now.tellClock(node, v);
        return was;
    }

    public int wrong(int node, int other, int v) {
        if (!shape.hasLink(node, other)) {
            return UNKNOWN;
        }
        if (v < -GREATEST_ERROR || v > GREATEST_ERROR) {
            return OUTSIDE;
        }
        int was = now.errors[cell(node, other)];
        now.errors[cell(node, other)] = v;
        return was;
    }

    public int delay(int node, int other, int v) {
        if (!shape.hasLink(node, other)) {
            return UNKNOWN;
        }
        if (v < 0 || v > LONGEST_DELAY) {
            return OUTSIDE;
        }
        int was = now.delays[cell(node, other)];
        now.tellDelay(node, other, v);
        return was;
    }

    public int go(int n) {
        if (n < 1 || n > MOST_TICKS_AT_ONCE) {
            return OUTSIDE;
        }
        if (!shape.isRead() || now.ticks + n > MOST_TICKS) {
            return STATE;
        }
        for (int i = 0; i < n; i++) {
            now.tick(step, boost);
        }
        ticksEver += n;
        return now.localSkew();
    }

    // ---- nodes, links

    public int node(int node, int what) {
        if (!shape.hasNode(node)) {
            return UNKNOWN;
        }
        switch (what) {
            case 0: return now.clockOf(node);
            case 1: return now.rates[node];
            case 2: return now.fast[node];
            case 3: return shape.degrees[node];
            case 4: return now.aheadOf(node);
            case 5: return now.behindOf(node);
            case 6: return now.leastUp(node, step);
            case 7: return now.leastDown(node, step);
            case 8: return now.fastTicks[node];
            default: return OUTSIDE;
        }
    }

    public int link(int node, int other, int what) {
        if (!shape.hasLink(node, other)) {
            return UNKNOWN;
        }
        switch (what) {
            case 0: return now.delays[cell(node, other)];
            case 1: return now.errors[cell(node, other)];
            case 2: return now.guess(node, other);
            case 3: return now.skewOf(node, other);
            default: return OUTSIDE;
        }
    }

    public int hops(int node, int other) {
        if (!shape.hasNode(node) || !shape.hasNode(other)) {
            return UNKNOWN;
        }
        return shape.hopsOf(node, other);
    }

    // ---- skews

    public int skew(int what) {
        if (what < 0 || what > 3) {
            return OUTSIDE;
        }
        if (!shape.isRead()) {
            return STATE;
        }
        switch (what) {
            case 0: return now.localSkew();
            case 1: return now.globalSkew();
            case 2: return levelReaching(now.localSkew(), step);
            default: return now.greatestLocal;
        }
    }

    public int spread(int h) {
        if (h < 1 || h >= MOST_NODES) {
            return OUTSIDE;
        }
        if (!shape.isRead()) {
            return STATE;
        }
        return now.skewByHops(h);
    }

    public int worst(int n, int what) {
        if (n < 1 || n > MOST_TICKS_OF_WORST || what < 0 || what > 1) {
            return OUTSIDE;
        }
        if (!shape.isRead()) {
            return STATE;
        }
        long found = searchWorst(n);
        return what == 0 ? skewOfWorst(found) : nodesOfWorst(found);
    }

    // ---- images

    public int image() {
        if (!shape.isRead()) {
            return STATE;
        }
        kept.copyAll(now);
        imageKept = true;
        return kept.ticks;
    }

    public int restore() {
        if (!imageKept) {
            return STATE;
        }
        now.copyAll(kept);
        return now.ticks;
    }

    // ---- what is told of all

    public int count(int what) {
        switch (what) {
            case 0: return shape.nodes;
            case 1: return shape.links;
            case 2: return page.length;
            case 3: return now.ticks;
            case 4: return step;
            case 5: return boost;
            case 6: return now.howManyFast();
            case 7: return netsRead;
            case 8: return ticksEver;
            default: return OUTSIDE;
        }
    }

    public long digest() {
        long h = mixNodes(1663L);
        h = mixLinks(h);
        if (shape.isRead()) {
            h = mixSkews(h);
        }
        for (int i = 0; i < page.length; i++) {
            h = mix(h, page.letterAt(i));
        }
        for (int what = 0; what <= 8; what++) {
            h = mix(h, count(what));
        }
        return h;
    }

    private long mixNodes(long start) {
        long h = start;
        for (int v = 0; v < shape.nodes; v++) {
            for (int what = 0; what <= 8; what++) {
                h = mix(h, node(v, what));
            }
        }
        return h;
    }

    private long mixLinks(long start) {
        long h = start;
        for (int v = 0; v < shape.nodes; v++) {
            for (int w = v + 1; w < shape.nodes; w++) {
                if (shape.hasLink(v, w)) {
                    h = mixLink(mixLink(h, v, w), w, v);
                }
            }
        }
        return h;
    }

    private long mixLink(long start, int v, int w) {
        long h = start;
        for (int what = 0; what <= 3; what++) {
            h = mix(h, link(v, w, what));
        }
        return h;
    }

    private long mixSkews(long start) {
        long h = start;
        for (int what = 0; what <= 3; what++) {
            h = mix(h, skew(what));
        }
        for (int hopsApart = 1; hopsApart < MOST_NODES; hopsApart++) {
            h = mix(h, spread(hopsApart));
        }
        // One search serves both numbers of WORST: it is by far the dearest part.
        long found = searchWorst(3);
        h = mix(h, skewOfWorst(found));
        return mix(h, nodesOfWorst(found));
    }

    private static long mix(long h, int number) {
        return 31L * h + number;
    }

    /** The greatest LOCAL and its set of NODES in one number, for skewOfWorst and nodesOfWorst. */
    private long searchWorst(int n) {
        int greatest = -1;
        int by = 0;
        trial.copyAll(now);
        // Sets go upwards and only a greater LOCAL replaces: so the least set stays.
        for (int members = 0; members < 1 << shape.nodes; members++) {
            trial.copyMotion(now);
            trial.tellRates(members);
            for (int i = 0; i < n; i++) {
                trial.move(step, boost);
            }
            int local = trial.localSkew();
            if (local > greatest) {
                greatest = local;
                by = members;
            }
        }
        return ((long) greatest << MOST_NODES) | by;
    }

    private static int skewOfWorst(long found) {
        return (int) (found >> MOST_NODES);
    }

    private static int nodesOfWorst(long found) {
        return (int) (found & ((1 << MOST_NODES) - 1));
    }

    /** The place, in a table with a row for each NODE, of what belongs to two of them. */
    private static int cell(int row, int column) {
        return row * MOST_NODES + column;
    }

    /** The least s from 0 on, so that (2 * s + 1) * step is the amount or more. */
    private static int levelReaching(int amount, int step) {
        return amount <= step ? 0 : dividedUp(amount - step, 2 * step);
    }

    private static int dividedUp(int amount, int by) {
        return by < 1 ? 0 : (amount + by - 1) / by;
    }

    /** THE PAGE. */
    private static final class Page {
        private static final int LETTERS_OF_LINK = 4;

        private final int[] letters = new int[MOST_LETTERS];
        private int length = 0;

        boolean isFull() {
            return length >= MOST_LETTERS;
        }

        /** Only while it is not full. */
        int append(int code) {
            if (length < MOST_LETTERS) {
                letters[length] = code;
                length++;
            }
            return length;
        }

        int empty() {
            int had = length;
            length = 0;
            return had;
        }

        int letterAt(int place) {
            return place >= 0 && place < length ? letters[place] : NONE;
        }

        /** Of a letter that is no digit it is below 0 or above 9, so the bounds of use refuse it. */
        int digitAt(int place) {
            return letterAt(place) - '0';
        }

        int firstFault() {
            for (int place = 0; place < length; place++) {
                if (!fitsAt(place)) {
                    return place;
                }
            }
            return length;
        }

        boolean isNet() {
            return length > LETTERS_OF_LINK && length % LETTERS_OF_LINK == 1 && firstFault() == length;
        }

        int howManyLinks() {
            return (length - 1) / LETTERS_OF_LINK;
        }

        /** The place of the first digit of a LINK, by its number from 0. */
        static int placeOfLink(int number) {
            return 2 + LETTERS_OF_LINK * number;
        }

        /** Whether a letter goes on as a NET may, those ahead of it having done so. */
        private boolean fitsAt(int place) {
            int digit = digitAt(place);
            if (place == 0) {
                return digit >= 2 && digit <= MOST_NODES;
            }
            switch (place % LETTERS_OF_LINK) {
                case 1: return letterAt(place) == ',';
                case 2: return isNode(digit);
                case 3: return isNode(digit) && isNewLink(place);
                default: return digit >= 0 && digit <= LONGEST_DELAY;
            }
        }

        private boolean isNode(int digit) {
            return digit >= 0 && digit < digitAt(0);
        }

        private boolean isNewLink(int placeOfSecond) {
            int first = digitAt(placeOfSecond - 1);
            int second = digitAt(placeOfSecond);
            if (first == second) {
                return false;
            }
            for (int place = placeOfLink(0); place < placeOfSecond - 1; place += LETTERS_OF_LINK) {
                int one = digitAt(place);
                int other = digitAt(place + 1);
                if (one == first && other == second || one == second && other == first) {
                    return false;
                }
            }
            return true;
        }
    }

    /** What of a NET no call but net() alters: who is whose NEIGHBOUR. */
    private static final class Net {
        // More than any way has, and small enough to be added to itself.
        private static final int NO_WAY = 1000;

        private final int[] degrees = new int[MOST_NODES];
        private final int[] neighbours = new int[MOST_NODES * MOST_NODES];
        private final int[] ways = new int[MOST_NODES * MOST_NODES];
        private int nodes = 0;
        private int links = 0;

        boolean isRead() {
            return nodes > 0;
        }

        boolean hasNode(int node) {
            return node >= 0 && node < nodes;
        }

        boolean hasLink(int node, int other) {
            return hasNode(node) && hasNode(other) && ways[cell(node, other)] == 1;
        }

        int hopsOf(int node, int other) {
            int way = ways[cell(node, other)];
            return way < NO_WAY ? way : NONE;
        }

        int neighbourOf(int node, int number) {
            return neighbours[cell(node, number)];
        }

        /** Only from a page that is a NET. */
        void readFrom(Page page) {
            nodes = page.digitAt(0);
            links = page.howManyLinks();
            for (int v = 0; v < MOST_NODES; v++) {
                degrees[v] = 0;
                for (int w = 0; w < MOST_NODES; w++) {
                    ways[cell(v, w)] = v == w ? 0 : NO_WAY;
                }
            }
            for (int i = 0; i < links; i++) {
                int place = Page.placeOfLink(i);
                join(page.digitAt(place), page.digitAt(place + 1));
            }
            shortenWays();
        }

        private void join(int node, int other) {
            if (hasNode(node) && hasNode(other)) {
                addNeighbour(node, other);
                addNeighbour(other, node);
            }
        }

        private void addNeighbour(int node, int other) {
            if (degrees[node] < MOST_NODES) {
                neighbours[cell(node, degrees[node])] = other;
                degrees[node]++;
                ways[cell(node, other)] = 1;
            }
        }

        private void shortenWays() {
            for (int over = 0; over < nodes; over++) {
                for (int v = 0; v < nodes; v++) {
                    for (int w = 0; w < nodes; w++) {
                        int way = ways[cell(v, over)] + ways[cell(over, w)];
                        ways[cell(v, w)] = Math.min(ways[cell(v, w)], way);
                    }
                }
            }
        }
    }

    /** All that an IMAGE keeps. */
    private static final class Clocks {
        private final Net shape;
        // A row for each number of TICKS AGO, row 0 being the CLOCKS as they are.
        private final int[] past = new int[(LONGEST_DELAY + 1) * MOST_NODES];
        private final int[] rates = new int[MOST_NODES];
        private final int[] fast = new int[MOST_NODES];
        private final int[] fastTicks = new int[MOST_NODES];
        // Of a LINK both cells have the same DELAY; an ERROR stands in the row of who has it.
        private final int[] delays = new int[MOST_NODES * MOST_NODES];
        private final int[] errors = new int[MOST_NODES * MOST_NODES];
        private int ticks = 0;
        private int greatestLocal = 0;
        // What compareGuesses() found last; no part of what is kept.
        private int ahead = NONE;
        private int behind = NONE;

        Clocks(Net shape) {
            this.shape = shape;
        }

        /** Only from the page that the net was read from. */
        void startFrom(Page page) {
            Arrays.fill(past, 0);
            Arrays.fill(rates, USUAL_RATE);
            Arrays.fill(fast, 0);
            Arrays.fill(fastTicks, 0);
            Arrays.fill(errors, 0);
            for (int i = 0; i < shape.links; i++) {
                int place = Page.placeOfLink(i);
                tellDelay(page.digitAt(place), page.digitAt(place + 1), page.digitAt(place + 2));
            }
            ticks = 0;
            greatestLocal = 0;
        }

        void copyAll(Clocks from) {
            copyMotion(from);
            System.arraycopy(from.rates, 0, rates, 0, rates.length);
            System.arraycopy(from.fastTicks, 0, fastTicks, 0, fastTicks.length);
            System.arraycopy(from.delays, 0, delays, 0, delays.length);
            System.arraycopy(from.errors, 0, errors, 0, errors.length);
            ticks = from.ticks;
            greatestLocal = from.greatestLocal;
        }

        /** What move() alters and goes by. */
        void copyMotion(Clocks from) {
            System.arraycopy(from.past, 0, past, 0, past.length);
            System.arraycopy(from.fast, 0, fast, 0, fast.length);
        }

        /** 110 for the NODES that are members (as bits), 90 for the others. */
        void tellRates(int members) {
            for (int v = 0; v < shape.nodes; v++) {
                rates[v] = (members >> v & 1) == 1 ? GREATEST_RATE : LEAST_RATE;
            }
        }

        void tellDelay(int node, int other, int v) {
            if (shape.hasLink(node, other)) {
                delays[cell(node, other)] = v;
                delays[cell(other, node)] = v;
            }
        }

        void tellClock(int node, int v) {
            for (int ago = 0; ago <= LONGEST_DELAY; ago++) {
                past[cell(ago, node)] = v;
            }
        }

        int clockOf(int node) {
            return past[node];
        }

        int guess(int node, int neighbour) {
            int link = cell(node, neighbour);
            int ago = delays[link];
            return past[cell(ago, neighbour)] + TICK_OF_GUESS * ago + errors[link];
        }

        int aheadOf(int node) {
            compareGuesses(node);
            return ahead;
        }

        int behindOf(int node) {
            compareGuesses(node);
            return behind;
        }

        int leastUp(int node, int step) {
            compareGuesses(node);
            return upLevel(step);
        }

        int leastDown(int node, int step) {
            compareGuesses(node);
            return downLevel(step);
        }

        /** Leaves AHEAD and BEHIND of a NODE in their fields: one round serves both. */
        private void compareGuesses(int node) {
            int mostAhead = NONE;
            int mostBehind = NONE;
            int clock = clockOf(node);
            int degree = shape.degrees[node];
            for (int i = 0; i < degree; i++) {
                int more = guess(node, shape.neighbourOf(node, i)) - clock;
                mostAhead = Math.max(mostAhead, more);
                mostBehind = Math.max(mostBehind, -more);
            }
            ahead = mostAhead;
            behind = mostBehind;
        }

        // BEHIND lets no lower level be; a higher one asks more of AHEAD: so only one level is tried.
        // NONE, being far below any AHEAD and BEHIND, reaches no level.
        private int upLevel(int step) {
            int level = levelReaching(behind, step);
            return ahead >= (2 * level + 1) * step ? level : NONE;
        }

        private int downLevel(int step) {
            int level = ahead <= 2 * step ? 1 : dividedUp(ahead, 2 * step);
            return behind >= 2 * level * step ? level : NONE;
        }

        /** A TICK that goes by. */
        void tick(int step, int boost) {
            move(step, boost);
            for (int v = 0; v < shape.nodes; v++) {
                fastTicks[v] += fast[v];
            }
            ticks++;
            greatestLocal = Math.max(greatestLocal, localSkew());
        }

        /** What a TICK does to CLOCKS and to who is FAST, without counting it. */
        void move(int step, int boost) {
            for (int v = 0; v < shape.nodes; v++) {
                compareGuesses(v);
                if (upLevel(step) != NONE) {
                    fast[v] = 1;
                } else if (downLevel(step) != NONE) {
                    fast[v] = 0;
                }
            }
            // Only now, as every NODE has looked at the CLOCKS as they were.
            System.arraycopy(past, 0, past, MOST_NODES, LONGEST_DELAY * MOST_NODES);
            for (int v = 0; v < shape.nodes; v++) {
                past[v] += rates[v] + fast[v] * boost;
            }
        }

        int skewOf(int node, int other) {
            return Math.abs(clockOf(node) - clockOf(other));
        }

        int localSkew() {
            return skewByHops(1);
        }

        int globalSkew() {
            int greatest = 0;
            for (int v = 0; v < shape.nodes; v++) {
                for (int w = v + 1; w < shape.nodes; w++) {
                    greatest = Math.max(greatest, skewOf(v, w));
                }
            }
            return greatest;
        }

        /** The greatest SKEW of two with so many HOPS; NONE, if there are no such two. */
        int skewByHops(int hopsApart) {
            int greatest = NONE;
            for (int v = 0; v < shape.nodes; v++) {
                for (int w = v + 1; w < shape.nodes; w++) {
                    if (shape.hopsOf(v, w) == hopsApart) {
                        greatest = Math.max(greatest, skewOf(v, w));
                    }
                }
            }
            return greatest;
        }

        int howManyFast() {
            int many = 0;
            for (int v = 0; v < shape.nodes; v++) {
                many += fast[v];
            }
            return many;
        }
    }
}
