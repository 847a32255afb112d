/** The edges of promises 6 to 11: step, boost, rates, clocks, errors, delays, ticks. */
public final class ToldEdgesTest {
    private static final int UNKNOWN = Edges.UNKNOWN;
    private static final int OUTSIDE = Edges.OUTSIDE;
    private static final int STATE = Edges.STATE;

    private static final String FIRST_REFUSAL = "of several the first as told by each call";

    private static final Edges EDGES = new Edges();

    public static void main(String[] args) {
        set();
        rate();
        put();
        wrong();
        delay();
        go();
        ticks();
        EDGES.end(6, 11);
    }

    private static void due(String what, long got, long want) {
        EDGES.due(what, got, want);
    }

    // ---- 6

    private static void set() {
        EDGES.hold(6, "STEP (what = 0), BOOST (1) become v: what it was. OUTSIDE: what, v.", () ->
            EDGES.bounds("what", Edges::busy, OUTSIDE, 0, 1, what -> x -> x.set(what, 1)));
        EDGES.hold(6, "STEP (1 to 500", () ->
            EDGES.bounds("step", Edges::busy, OUTSIDE, 1, 500, v -> x -> x.set(0, v)));
        EDGES.hold(6, "BOOST (1 to 60", () ->
            EDGES.bounds("boost", Edges::busy, OUTSIDE, 1, 60, v -> x -> x.set(1, v)));
        EDGES.hold(6, "become v: what it was", ToldEdgesTest::setToLeastAndGreatest);
        EDGES.hold(6, "are of all", ToldEdgesTest::setWithoutNet);
    }

    private static void setToLeastAndGreatest() {
        CloseClocks x = Check.withNet("2,010");
        due("step", x.set(0, 500), 20);
        due("step", x.set(0, 1), 500);
        due("step as it is", x.set(0, 1), 1);
        due("boost", x.set(1, 60), 10);
        due("boost", x.set(1, 1), 60);
        due("boost as it is", x.set(1, 1), 1);
        due("count of step", x.count(4), 1);
        due("count of boost", x.count(5), 1);
    }

    private static void setWithoutNet() {
        CloseClocks x = new CloseClocks();
        due("step", x.set(0, 500), 20);
        due("boost", x.set(1, 60), 10);
        due("step", x.count(4), 500);
        due("boost", x.count(5), 60);
        EDGES.refused("step too large", CloseClocks::new, OUTSIDE, y -> y.set(0, 501));
        EDGES.refused("no such what", CloseClocks::new, OUTSIDE, y -> y.set(2, 1));
    }

    // ---- 7

    private static void rate() {
        EDGES.hold(7, "RATE of a NODE becomes v: what it was. UNKNOWN: node", () ->
            EDGES.bounds("node", Edges::busy, UNKNOWN, 0, 3, node -> x -> x.rate(node, 100)));
        EDGES.hold(7, "a RATE (90 to 110", () ->
            EDGES.bounds("rate", Edges::busy, OUTSIDE, 90, 110, v -> x -> x.rate(3, v)));
        EDGES.hold(7, FIRST_REFUSAL, () ->
            EDGES.refused("both wrong", Edges::busy, UNKNOWN, x -> x.rate(4, 111)));
        EDGES.hold(7, "RATE of a NODE becomes v: what it was", ToldEdgesTest::leastAndGreatestRate);
    }

    private static void leastAndGreatestRate() {
        CloseClocks x = Edges.calm("6,010");
        due("first", x.rate(0, 90), 100);
        due("last", x.rate(5, 110), 100);
        due("first again", x.rate(0, 90), 90);
        due("last again", x.rate(5, 90), 110);
        x.rate(5, 110);
        x.go(1);
        due("clock of the first", x.node(0, 0), 90);
        due("clock of another", x.node(1, 0), 100);
        due("clock of the last", x.node(5, 0), 110);
    }

    // ---- 8

    private static void put() {
        EDGES.hold(8, "(0 to 1000000): what it was. UNKNOWN: node", () ->
            EDGES.bounds("node", Edges::busy, UNKNOWN, 0, 3, node -> x -> x.put(node, 1)));
        EDGES.hold(8, "becomes v (0 to 1000000)", () ->
            EDGES.bounds("clock", Edges::busy, OUTSIDE, 0, 1000000, v -> x -> x.put(2, v)));
        EDGES.hold(8, FIRST_REFUSAL, () ->
            EDGES.refused("both wrong", Edges::busy, UNKNOWN, x -> x.put(-1, -1)));
        EDGES.hold(8, "The CLOCK of a NODE becomes v", ToldEdgesTest::leastAndGreatestClock);
        EDGES.hold(8, "counts as what the CLOCK was in all TICKS ahead, too", ToldEdgesTest::putCountsInAllTicksAhead);
        EDGES.hold(8, "and in place of that 0", ToldEdgesTest::putStandsInPlaceOfNothing);
    }

    private static void leastAndGreatestClock() {
        CloseClocks x = Edges.calm("6,010");
        due("last", x.put(5, 1000000), 0);
        due("last, once more", x.put(5, 1000000), 1000000);
        due("first", x.put(0, 1000000), 0);
        x.rate(0, 110);
        x.go(100);
        due("a clock grows beyond what can be told", x.node(0, 0), 1011000);
        due("and is told as it was", x.put(0, 0), 1011000);
        due("least", x.node(0, 0), 0);
        due("no other is altered", x.node(5, 0), 1010000);
    }

    private static void putCountsInAllTicksAhead() {
        CloseClocks x = Edges.calm("2,010");
        x.go(5);
        x.put(1, 40);
        EDGES.dueAll("guesses", Edges.guesses(x), 40, 140, 240, 340);
        x.rate(1, 90);
        x.go(2);
        EDGES.dueAll("guesses two ticks later", Edges.guesses(x), 220, 230, 240, 340);
        due("clocks of the other one", x.link(1, 0, 2), 700);
        x.put(1, 0);
        EDGES.dueAll("guesses of the least", Edges.guesses(x), 0, 100, 200, 300);
    }

    private static void putStandsInPlaceOfNothing() {
        CloseClocks x = Edges.calm("2,010");
        x.put(1, 40);
        EDGES.dueAll("guesses", Edges.guesses(x), 40, 140, 240, 340);
        x.rate(1, 90);
        x.go(1);
        EDGES.dueAll("guesses a tick later", Edges.guesses(x), 130, 140, 240, 340);
        x.go(2);
        EDGES.dueAll("guesses three ticks later", Edges.guesses(x), 310, 320, 330, 340);
        x.go(1);
        EDGES.dueAll("guesses four ticks later", Edges.guesses(x), 400, 410, 420, 430);
    }

    // ---- 9

    private static void wrong() {
        EDGES.hold(9, "ERROR that a NODE has for a NEIGHBOUR becomes v: what it was. UNKNOWN: node, other, or they are no NEIGHBOURS",
            () -> EDGES.onlyNeighbours("error", (node, other) -> x -> x.wrong(node, other, 1)));
        EDGES.hold(9, "an ERROR for the other one (-9 to 9", () ->
            EDGES.bounds("error", Edges::busy, OUTSIDE, -9, 9, v -> x -> x.wrong(1, 2, v)));
        EDGES.hold(9, FIRST_REFUSAL, () -> {
            EDGES.refused("no neighbours", Edges::busy, UNKNOWN, x -> x.wrong(0, 2, 10));
            EDGES.refused("no node", Edges::busy, UNKNOWN, x -> x.wrong(0, 4, -10));
        });
        EDGES.hold(9, "Of a LINK each of both NODES has an ERROR for the other one", ToldEdgesTest::errorsOfBoth);
    }

    private static void errorsOfBoth() {
        CloseClocks x = Check.withNet("2,010");
        due("least", x.wrong(0, 1, -9), 0);
        due("greatest", x.wrong(1, 0, 9), 0);
        due("of the first", x.link(0, 1, 1), -9);
        due("of the other", x.link(1, 0, 1), 9);
        due("guess of the first", x.link(0, 1, 2), -9);
        due("guess of the other", x.link(1, 0, 2), 9);
        due("what it was", x.wrong(0, 1, 0), -9);
        due("the other's stays", x.wrong(1, 0, 9), 9);
    }

    // ---- 10

    private static void delay() {
        EDGES.hold(10, "DELAY of a LINK becomes v: what it was. UNKNOWN: node, other, or they are no NEIGHBOURS",
            () -> EDGES.onlyNeighbours("delay", (node, other) -> x -> x.delay(node, other, 1)));
        EDGES.hold(10, "OUTSIDE: v (0 to 3)", () ->
            EDGES.bounds("delay", Edges::busy, OUTSIDE, 0, 3, v -> x -> x.delay(2, 1, v)));
        EDGES.hold(10, FIRST_REFUSAL, () -> {
            EDGES.refused("no neighbours", Edges::busy, UNKNOWN, x -> x.delay(2, 0, 4));
            EDGES.refused("no node", Edges::busy, UNKNOWN, x -> x.delay(4, 0, -1));
        });
        EDGES.hold(10, "DELAY of a LINK becomes v", ToldEdgesTest::delayOfBoth);
    }

    private static void delayOfBoth() {
        CloseClocks x = Check.withNet("3,010,123");
        due("least as it is", x.delay(0, 1, 0), 0);
        due("greatest", x.delay(0, 1, 3), 0);
        due("seen from the other", x.link(1, 0, 0), 3);
        due("told from the other", x.delay(1, 0, 0), 3);
        due("seen from the first", x.link(0, 1, 0), 0);
        due("another link stays", x.link(2, 1, 0), 3);
    }

    // ---- 11

    private static void go() {
        EDGES.hold(11, "So many TICKS (1 to 100) go by", () ->
            EDGES.bounds("ticks", Edges::busy, OUTSIDE, 1, 100, n -> x -> x.go(n)));
        EDGES.hold(11, "OUTSIDE: n; STATE: no NET", () -> {
            EDGES.refused("least", CloseClocks::new, STATE, x -> x.go(1));
            EDGES.refused("most", CloseClocks::new, STATE, x -> x.go(100));
        });
        EDGES.hold(11, "there would be more than 9000 TICKS", ToldEdgesTest::lastTick);
        EDGES.hold(11, "Refusals, of several the first as told by each call", ToldEdgesTest::outsideAheadOfState);
        EDGES.hold(11, "how many TICKS there were", ToldEdgesTest::roomAgain);
        EDGES.hold(11, "So many TICKS (1 to 100) go by: LOCAL.", ToldEdgesTest::manyTicksAtOnce);
    }

    private static CloseClocks atTick8950() {
        CloseClocks x = Check.withNet("2,010");
        x.go(50);
        for (int i = 0; i < 89; i++) {
            x.go(100);
        }
        return x;
    }

    private static void lastTick() {
        EDGES.refused("51 behind 8950", ToldEdgesTest::atTick8950, STATE, x -> x.go(51));
        EDGES.refused("100 behind 8950", ToldEdgesTest::atTick8950, STATE, x -> x.go(100));
        CloseClocks x = atTick8950();
        due("50 behind 8950", x.go(50), 0);
        due("ticks", x.count(3), 9000);
        due("clock", x.node(1, 0), 900000);
        EDGES.refused("one behind 9000", Edges::atLastTick, STATE, y -> y.go(1));
        EDGES.refused("100 behind 9000", Edges::atLastTick, STATE, y -> y.go(100));
    }

    private static void outsideAheadOfState() {
        EDGES.refused("too few without a net", CloseClocks::new, OUTSIDE, x -> x.go(0));
        EDGES.refused("too many without a net", CloseClocks::new, OUTSIDE, x -> x.go(101));
        EDGES.refused("too few behind 9000", Edges::atLastTick, OUTSIDE, x -> x.go(0));
        EDGES.refused("too many behind 9000", Edges::atLastTick, OUTSIDE, x -> x.go(101));
        EDGES.refused("far too many behind 9000", Edges::atLastTick, OUTSIDE, x -> x.go(Integer.MAX_VALUE));
    }

    private static void roomAgain() {
        CloseClocks x = atTick8950();
        x.image();
        x.go(50);
        due("full", x.go(1), STATE);
        due("restored", x.restore(), 8950);
        due("room of the image", x.go(50), 0);
        due("full again", x.go(1), STATE);
        Check.type(x, "2,010");
        x.net();
        due("room of another net", x.go(100), 0);
        due("ticks of it", x.count(3), 100);
        due("ticks ever", x.count(8), 9150);
    }

    private static void manyTicksAtOnce() {
        CloseClocks once = Edges.busy();
        CloseClocks oneByOne = Edges.busy();
        int last = 0;
        for (int i = 0; i < 100; i++) {
            last = oneByOne.go(1);
        }
        due("local", once.go(100), last);
        due("it is that of skew()", once.skew(0), last);
        due("all goes on the same", Edges.future(once), Edges.future(oneByOne));
    }

    // ---- 11, what a tick does

    private static void ticks() {
        EDGES.hold(11, "if it has UP of any level it is FAST from now on", ToldEdgesTest::upMakesFast);
        EDGES.hold(11, "if it has DOWN of any, it is not", ToldEdgesTest::downMakesSlow);
        EDGES.hold(11, "else it stays as it is", ToldEdgesTest::elseItStays);
        EDGES.hold(11, "(A NODE without NEIGHBOURS has neither.", ToldEdgesTest::loneNodeStaysSlow);
        EDGES.hold(11, "of each NODE by how all is ahead of it", ToldEdgesTest::byHowAllIsAhead);
        EDGES.hold(11, "then all CLOCKS grow at once: by RATE, and by BOOST, if the NODE is FAST", ToldEdgesTest::growth);
    }

    /** Three in a row, the second so far behind the first and so far ahead of the third. */
    private static CloseClocks row(int ahead, int behind) {
        CloseClocks x = Check.withNet("3,010,120");
        x.put(0, 5000 + ahead);
        x.put(1, 5000);
        x.put(2, 5000 - behind);
        return x;
    }

    private static long fastBehindTick(CloseClocks x) {
        x.go(1);
        return x.node(1, 2);
    }

    private static void upMakesFast() {
        due("ahead by less than a step", fastBehindTick(row(19, 0)), 0);
        due("ahead by a step", fastBehindTick(row(20, 0)), 1);
        due("a step both ways", fastBehindTick(row(20, 20)), 1);
        due("behind by more", fastBehindTick(row(20, 21)), 0);
        due("level 1", fastBehindTick(row(60, 60)), 1);
        due("not quite level 1", fastBehindTick(row(59, 60)), 0);
        due("level 50", fastBehindTick(row(2020, 2020)), 1);
    }

    /** The second one is fast ahead of the tick. */
    private static CloseClocks fastRow(int ahead, int behind) {
        CloseClocks x = row(20, 0);
        x.go(1);
        x.put(0, 5000 + ahead);
        x.put(1, 5000);
        x.put(2, 5000 - behind);
        return x;
    }

    private static void downMakesSlow() {
        due("fast as it is", fastRow(0, 0).node(1, 2), 1);
        due("behind by less than two steps", fastBehindTick(fastRow(0, 39)), 1);
        due("behind by two steps", fastBehindTick(fastRow(0, 40)), 0);
        due("two steps both ways", fastBehindTick(fastRow(40, 40)), 0);
        due("ahead by more", fastBehindTick(fastRow(41, 40)), 1);
        due("level 2", fastBehindTick(fastRow(80, 80)), 0);
        due("not quite level 2", fastBehindTick(fastRow(80, 79)), 1);
        due("level 50", fastBehindTick(fastRow(2000, 2000)), 0);
    }

    private static void elseItStays() {
        due("slow with level clocks", fastBehindTick(row(0, 0)), 0);
        due("fast with level clocks", fastBehindTick(fastRow(0, 0)), 1);
        due("slow between the triggers", fastBehindTick(row(39, 39)), 0);
        due("fast between the triggers", fastBehindTick(fastRow(39, 39)), 1);
    }

    private static void loneNodeStaysSlow() {
        CloseClocks x = Check.withNet("3,010");
        x.put(0, 900000);
        x.put(1, 900000);
        x.go(100);
        due("far behind all", x.node(2, 0), 10000);
        due("slow", x.node(2, 2), 0);
        due("in no tick fast", x.node(2, 8), 0);
    }

    private static void byHowAllIsAhead() {
        CloseClocks x = Check.withNet("2,010");
        x.set(0, 1);
        x.go(1);
        due("nobody saw the other grow", x.count(6), 0);
        CloseClocks row = row(0, 0);
        row.put(0, 5020);
        row.go(1);
        due("the second saw the first", row.node(1, 2), 1);
        due("the third saw the second as it was", row.node(2, 2), 0);
    }

    private static void growth() {
        CloseClocks x = row(20, 0);
        x.set(1, 60);
        x.rate(1, 110);
        x.rate(2, 90);
        due("local", x.go(1), 80);
        due("by a rate", x.node(0, 0), 5120);
        due("by the greatest rate and boost", x.node(1, 0), 5170);
        due("by the least rate", x.node(2, 0), 5090);
        CloseClocks least = row(20, 0);
        least.set(1, 1);
        least.go(1);
        due("by the least boost", least.node(1, 0), 5101);
    }
}
