/** The edges of promises 12 to 17: nodes, links, hops, skews, spreads, the worst rates. */
public final class SeenEdgesTest {
    private static final int NONE = Edges.NONE;
    private static final int UNKNOWN = Edges.UNKNOWN;
    private static final int OUTSIDE = Edges.OUTSIDE;
    private static final int STATE = Edges.STATE;

    private static final String FIRST_REFUSAL = "of several the first as told by each call";
    private static final String ROW_OF_SIX = "6,500,010,120,230,340";

    private static final Edges EDGES = new Edges();

    public static void main(String[] args) {
        node();
        levels();
        link();
        hops();
        skew();
        spread();
        worst();
        EDGES.end(12, 17);
    }

    private static void due(String what, long got, long want) {
        EDGES.due(what, got, want);
    }

    // ---- 12

    private static void node() {
        EDGES.hold(12, "8 in how many TICKS it was FAST. UNKNOWN: node", () ->
            EDGES.bounds("node", Edges::busy, UNKNOWN, 0, 3, node -> x -> x.node(node, 0)));
        EDGES.hold(12, "UNKNOWN: node; OUTSIDE: what.", () ->
            EDGES.bounds("what", Edges::busy, OUTSIDE, 0, 8, what -> x -> x.node(3, what)));
        EDGES.hold(12, FIRST_REFUSAL, () ->
            EDGES.refused("both wrong", Edges::busy, UNKNOWN, x -> x.node(4, 9)));
        EDGES.hold(12, "4 AHEAD, 5 BEHIND (both NONE without NEIGHBOURS)", SeenEdgesTest::withoutNeighbours);
        EDGES.hold(12, "3 how many NEIGHBOURS", SeenEdgesTest::noneToFiveNeighbours);
        EDGES.hold(12, "2 whether it is FAST (1, 0)", SeenEdgesTest::fastOrNot);
        EDGES.hold(12, "8 in how many TICKS it was FAST", SeenEdgesTest::noneToAllTicksFast);
        EDGES.hold(12, "AHEAD of v: the greatest, over its NEIGHBOURS w, of GUESS for w less the CLOCK of v",
            SeenEdgesTest::aheadBelowNothing);
        EDGES.hold(12, "BEHIND: the greatest of the CLOCK of v less GUESS for w", SeenEdgesTest::behindBelowNothing);
    }

    private static void withoutNeighbours() {
        CloseClocks x = Check.withNet("3,120");
        x.put(1, 1000);
        EDGES.dueAll("the lone one", Edges.node(x, 0), 0, 100, 0, 0, NONE, NONE, NONE, NONE, 0);
        x.set(0, 1);
        x.go(7);
        EDGES.dueAll("later", Edges.node(x, 0), 700, 100, 0, 0, NONE, NONE, NONE, NONE, 0);
    }

    private static void noneToFiveNeighbours() {
        CloseClocks x = Check.withNet("6,010,200,030,400");
        due("none", x.node(5, 3), 0);
        due("one", x.node(4, 3), 1);
        due("four", x.node(0, 3), 4);
        CloseClocks whole = Check.withNet(Edges.WHOLE);
        for (int v = 0; v < 6; v++) {
            due("five of " + v, whole.node(v, 3), 5);
        }
    }

    private static void fastOrNot() {
        CloseClocks x = Check.withNet("2,010");
        x.put(0, 20);
        due("ahead of the tick", x.node(1, 2), 0);
        x.go(1);
        due("fast", x.node(1, 2), 1);
        due("not fast", x.node(0, 2), 0);
    }

    private static void noneToAllTicksFast() {
        CloseClocks x = Check.withNet("2,010");
        x.put(0, 1000000);
        due("without ticks", x.node(1, 8), 0);
        x.go(1);
        due("the first", x.node(1, 8), 1);
        x.go(100);
        due("all", x.node(1, 8), 101);
        due("none", x.node(0, 8), 0);
        x.put(0, 0);
        x.go(1);
        due("no more", x.node(1, 8), 101);
        due("the other's first", x.node(0, 8), 1);
    }

    private static void aheadBelowNothing() {
        CloseClocks x = row(20, -30, 50);
        due("all behind it", x.node(1, 4), -30);
        due("one just level", row(20, 0, 50).node(1, 4), 0);
        due("the greater one", row(20, 31, -30).node(1, 4), 31);
        due("the greater one is the last", row(20, 30, -31).node(1, 4), 31);
        CloseClocks far = Check.withNet("2,013");
        far.put(1, 1000000);
        far.wrong(0, 1, 9);
        due("as far as can be told", far.node(0, 4), 1000309);
        due("and back", far.node(1, 4), -999700);
    }

    private static void behindBelowNothing() {
        due("all ahead of it", row(20, 30, -50).node(1, 5), -30);
        due("one just level", row(20, 30, 0).node(1, 5), 0);
        due("the greater one", row(20, -30, 31).node(1, 5), 31);
        due("the greater one is the first", row(20, -31, 30).node(1, 5), 31);
        CloseClocks far = Check.withNet("2,010");
        far.put(1, 1000000);
        far.wrong(1, 0, -9);
        due("as far as can be told", far.node(1, 5), 1000009);
        due("and back", far.node(0, 5), -1000000);
    }

    // ---- 12, levels

    private static void levels() {
        EDGES.hold(12, "UP of level s (0 and more), if AHEAD is (2 * s + 1) * STEP or more", SeenEdgesTest::upByAhead);
        EDGES.hold(12, "(2 * s + 1) * STEP or more, and BEHIND is that or less", SeenEdgesTest::upByBehind);
        EDGES.hold(12, "DOWN of level s (1 and more), if BEHIND is 2 * s * STEP or more", SeenEdgesTest::downByBehind);
        EDGES.hold(12, "2 * s * STEP or more, and AHEAD is that or less", SeenEdgesTest::downByAhead);
        EDGES.hold(12, "6 the least level of UP, 7 of DOWN (NONE: it has none)", SeenEdgesTest::levelsByTryingAll);
        EDGES.hold(12, "No NODE has both UP and DOWN.", SeenEdgesTest::neverBoth);
        EDGES.hold(12, "STEP (1 to 500", SeenEdgesTest::levelsOfLeastAndGreatestStep);
    }

    /** Three in a row, the second so far behind the first and so far ahead of the third. */
    private static CloseClocks row(int step, int ahead, int behind) {
        CloseClocks x = Check.withNet("3,010,120");
        x.set(0, step);
        x.put(0, 500000 + ahead);
        x.put(1, 500000);
        x.put(2, 500000 - behind);
        return x;
    }

    private static void up(int ahead, int behind, int level) {
        due("up of " + ahead + ", " + behind, row(20, ahead, behind).node(1, 6), level);
    }

    private static void down(int ahead, int behind, int level) {
        due("down of " + ahead + ", " + behind, row(20, ahead, behind).node(1, 7), level);
    }

    private static void upByAhead() {
        up(0, 0, NONE);
        up(19, 0, NONE);
        up(20, 0, 0);
        up(59, 21, NONE);
        up(60, 21, 1);
        up(99, 61, NONE);
        up(100, 61, 2);
    }

    private static void upByBehind() {
        up(20, 20, 0);
        up(20, 21, NONE);
        up(200, 20, 0);
        up(200, 21, 1);
        up(200, 60, 1);
        up(200, 61, 2);
        up(20, -20, 0);
        up(60, 60, 1);
    }

    private static void downByBehind() {
        down(0, 0, NONE);
        down(-20, 20, NONE);
        down(0, 39, NONE);
        down(0, 40, 1);
        down(41, 79, NONE);
        down(41, 80, 2);
        down(81, 119, NONE);
        down(81, 120, 3);
    }

    private static void downByAhead() {
        down(40, 40, 1);
        down(41, 40, NONE);
        down(40, 200, 1);
        down(41, 200, 2);
        down(80, 200, 2);
        down(81, 200, 3);
        down(-40, 40, 1);
        down(80, 80, 2);
    }

    private static int triedUp(int step, int ahead, int behind) {
        for (int s = 0; s < 100; s++) {
            if (ahead >= (2 * s + 1) * step && behind <= (2 * s + 1) * step) {
                return s;
            }
        }
        return NONE;
    }

    private static int triedDown(int step, int ahead, int behind) {
        for (int s = 1; s < 100; s++) {
            if (behind >= 2 * s * step && ahead <= 2 * s * step) {
                return s;
            }
        }
        return NONE;
    }

    private static void levelsByTryingAll() {
        for (int first = -12; first <= 24; first++) {
            for (int third = -12; third <= 24; third++) {
                CloseClocks x = row(3, first, third);
                int ahead = Math.max(first, -third);
                int behind = Math.max(-first, third);
                due("up of " + first + ", " + third, x.node(1, 6), triedUp(3, ahead, behind));
                due("down of " + first + ", " + third, x.node(1, 7), triedDown(3, ahead, behind));
            }
        }
    }

    private static void neverBoth() {
        for (int step = 1; step <= 2; step++) {
            for (int ahead = 0; ahead <= 20; ahead++) {
                for (int behind = 0; behind <= 20; behind++) {
                    CloseClocks x = row(step, ahead, behind);
                    boolean both = x.node(1, 6) != NONE && x.node(1, 7) != NONE;
                    due("both of " + step + ", " + ahead + ", " + behind, both ? 1 : 0, 0);
                }
            }
        }
    }

    private static void levelsOfLeastAndGreatestStep() {
        due("least, up", row(1, 1, 1).node(1, 6), 0);
        due("least, down", row(1, 2, 2).node(1, 7), 1);
        due("least, the farthest up", row(1, 499999, 499999).node(1, 6), 249999);
        due("least, the farthest down", row(1, 500000, 500000).node(1, 7), 250000);
        due("least, the farthest not up", row(1, 500000, 500000).node(1, 6), NONE);
        due("greatest, not up", row(500, 499, 499).node(1, 6), NONE);
        due("greatest, up", row(500, 500, 500).node(1, 6), 0);
        due("greatest, not down", row(500, 0, 999).node(1, 7), NONE);
        due("greatest, down", row(500, 1000, 1000).node(1, 7), 1);
        due("greatest, the farthest down", row(500, 500000, 500000).node(1, 7), 500);
    }

    // ---- 13

    private static void link() {
        EDGES.hold(13, "3 SKEW. UNKNOWN: node, other, or they are no NEIGHBOURS", () ->
            EDGES.onlyNeighbours("link", (node, other) -> x -> x.link(node, other, 0)));
        EDGES.hold(13, "or they are no NEIGHBOURS; OUTSIDE: what.", () ->
            EDGES.bounds("what", Edges::busy, OUTSIDE, 0, 3, what -> x -> x.link(1, 2, what)));
        EDGES.hold(13, FIRST_REFUSAL, () -> {
            EDGES.refused("no neighbours", Edges::busy, UNKNOWN, x -> x.link(0, 2, 4));
            EDGES.refused("no node", Edges::busy, UNKNOWN, x -> x.link(4, 0, -1));
        });
        EDGES.hold(13, "A CLOCK so many TICKS AGO is what it was ahead of the last so many TICKS", SeenEdgesTest::ticksAgo);
        EDGES.hold(13, "0, if there were not so many TICKS", SeenEdgesTest::notSoManyTicks);
        EDGES.hold(13, "and 100 times that DELAY, and ERROR that v has for w, together", SeenEdgesTest::guessOfLeastAndMost);
        EDGES.hold(13, "the size of how much their CLOCKS differ", SeenEdgesTest::sizeOfSkew);
    }

    private static CloseClocks slowSecond(int ticks) {
        CloseClocks x = Edges.calm("2,010");
        x.rate(1, 90);
        x.go(ticks);
        return x;
    }

    private static void ticksAgo() {
        EDGES.dueAll("behind three ticks", Edges.guesses(slowSecond(3)), 270, 280, 290, 300);
        EDGES.dueAll("behind four ticks", Edges.guesses(slowSecond(4)), 360, 370, 380, 390);
        EDGES.dueAll("behind thirty ticks", Edges.guesses(slowSecond(30)), 2700, 2710, 2720, 2730);
    }

    private static void notSoManyTicks() {
        EDGES.dueAll("without ticks", Edges.guesses(Edges.calm("2,010")), 0, 100, 200, 300);
        EDGES.dueAll("behind one", Edges.guesses(slowSecond(1)), 90, 100, 200, 300);
        EDGES.dueAll("behind two", Edges.guesses(slowSecond(2)), 180, 190, 200, 300);
    }

    private static void guessOfLeastAndMost() {
        CloseClocks x = Check.withNet("2,013");
        x.wrong(0, 1, 9);
        x.wrong(1, 0, -9);
        x.put(1, 1000000);
        due("most", x.link(0, 1, 2), 1000309);
        due("the other way", x.link(1, 0, 2), 291);
        x.delay(0, 1, 0);
        due("least", x.link(1, 0, 2), -9);
        due("without delay", x.link(0, 1, 2), 1000009);
    }

    private static void sizeOfSkew() {
        CloseClocks x = Check.withNet("2,013");
        due("none", x.link(0, 1, 3), 0);
        x.wrong(0, 1, 9);
        due("neither delay nor error counts", x.link(0, 1, 3), 0);
        x.put(1, 1000000);
        due("from the lesser clock", x.link(0, 1, 3), 1000000);
        due("from the greater clock", x.link(1, 0, 3), 1000000);
    }

    // ---- 14

    private static void hops() {
        EDGES.hold(14, "NONE. UNKNOWN: node, other.", () -> {
            EDGES.bounds("node", Edges::busy, UNKNOWN, 0, 3, node -> x -> x.hops(node, 0));
            EDGES.bounds("other", Edges::busy, UNKNOWN, 0, 3, other -> x -> x.hops(0, other));
            EDGES.refused("the same, but no node", Edges::busy, UNKNOWN, x -> x.hops(4, 4));
        });
        EDGES.hold(14, "HOPS (0: they are the same)", SeenEdgesTest::hopsOfTheSame);
        EDGES.hold(14, "HOPS (0: they are the same); NONE.", SeenEdgesTest::hopsOfUnlinked);
        EDGES.hold(14, "over how few LINKS one comes from the one to the other one", SeenEdgesTest::fewestLinks);
    }

    private static void hopsOfTheSame() {
        CloseClocks x = Check.withNet("6,010,120,020");
        for (int v = 0; v < 6; v++) {
            due("hops of " + v, x.hops(v, v), 0);
        }
    }

    private static void hopsOfUnlinked() {
        CloseClocks x = Check.withNet("5,010,230");
        due("a part and a part", x.hops(0, 3), NONE);
        due("a part and a part, back", x.hops(3, 0), NONE);
        due("one without neighbours", x.hops(4, 0), NONE);
        due("to one without neighbours", x.hops(1, 4), NONE);
        due("within a part", x.hops(3, 2), 1);
    }

    private static void fewestLinks() {
        CloseClocks row = Check.withNet(ROW_OF_SIX);
        due("the most", row.hops(5, 4), 5);
        due("the most, back", row.hops(4, 5), 5);
        due("one less", row.hops(5, 3), 4);
        due("to the first node", row.hops(2, 0), 2);
        due("from the first node", row.hops(0, 4), 4);
        CloseClocks ring = Check.withNet(ROW_OF_SIX + ",453");
        due("the way round", ring.hops(5, 4), 1);
        due("as far both ways", ring.hops(5, 2), 3);
        due("the shorter way", ring.hops(3, 5), 2);
        CloseClocks whole = Check.withNet(Edges.WHOLE);
        due("straight", whole.hops(0, 5), 1);
    }

    // ---- 15

    private static void skew() {
        EDGES.hold(15, "OUTSIDE: what; STATE: no NET", () -> {
            EDGES.bounds("what", Edges::busy, OUTSIDE, 0, 3, what -> x -> x.skew(what));
            for (int what = 0; what <= 3; what++) {
                int fit = what;
                EDGES.refused("without a net " + what, CloseClocks::new, STATE, x -> x.skew(fit));
            }
        });
        EDGES.hold(15, FIRST_REFUSAL, () -> {
            EDGES.refused("too small without a net", CloseClocks::new, OUTSIDE, x -> x.skew(-1));
            EDGES.refused("too large without a net", CloseClocks::new, OUTSIDE, x -> x.skew(4));
        });
        EDGES.hold(15, "LOCAL: the greatest of NEIGHBOURS", SeenEdgesTest::localOfNeighboursAlone);
        EDGES.hold(15, "GLOBAL: of any two", SeenEdgesTest::globalOfAnyTwo);
        EDGES.hold(15, "LEVEL: the least s (0 and more), so that LOCAL is (2 * s + 1) * STEP or less", SeenEdgesTest::leastLevel);
        EDGES.hold(15, "(0: there was none)", SeenEdgesTest::greatestWithoutTicks);
        EDGES.hold(15, "3 the greatest LOCAL behind any TICK of this NET", SeenEdgesTest::greatestBehindTicksAlone);
    }

    private static void localOfNeighboursAlone() {
        CloseClocks x = Check.withNet("4,010,120");
        due("none", x.skew(0), 0);
        x.put(3, 1000000);
        due("one without neighbours", x.skew(0), 0);
        x.put(0, 5);
        x.put(1, 9);
        x.put(2, 13);
        due("those of two links", x.skew(0), 4);
        x.put(2, 1000000);
        due("the most that can be told", x.skew(0), 999991);
    }

    private static void globalOfAnyTwo() {
        CloseClocks x = Check.withNet("4,120");
        due("none", x.skew(1), 0);
        x.put(3, 1000000);
        due("the last, without neighbours", x.skew(1), 1000000);
        CloseClocks y = Check.withNet("4,120");
        y.put(0, 7);
        due("the first, without neighbours", y.skew(1), 7);
        y.put(1, 7);
        y.put(2, 7);
        y.put(3, 6);
        due("by one behind", y.skew(1), 1);
        CloseClocks two = Check.withNet("2,010");
        two.put(1, 5);
        due("of the only two", two.skew(1), 5);
    }

    private static void level(int step, int local, int level) {
        CloseClocks x = Check.withNet("2,010");
        x.set(0, step);
        x.put(1, local);
        due("level of " + local + " by " + step, x.skew(2), level);
    }

    private static void leastLevel() {
        level(20, 0, 0);
        level(20, 20, 0);
        level(20, 21, 1);
        level(20, 60, 1);
        level(20, 61, 2);
        level(20, 100, 2);
        level(1, 1, 0);
        level(1, 2, 1);
        level(1, 3, 1);
        level(1, 4, 2);
        level(1, 999999, 499999);
        level(1, 1000000, 500000);
        level(500, 500, 0);
        level(500, 501, 1);
        level(500, 1500, 1);
        level(500, 1501, 2);
        CloseClocks x = Check.withNet("3,010");
        x.put(2, 1000);
        due("those that are no neighbours do not count", x.skew(2), 0);
    }

    private static void greatestWithoutTicks() {
        CloseClocks x = Check.withNet("2,010");
        due("at first", x.skew(3), 0);
        x.put(0, 1000000);
        due("put() is no tick", x.skew(3), 0);
        x.worst(12, 0);
        due("worst() is no tick", x.skew(3), 0);
    }

    private static void greatestBehindTicksAlone() {
        CloseClocks x = Check.withNet("2,010");
        x.put(0, 120);
        x.go(5);
        due("behind the first of several, not ahead of it", x.skew(3), 110);
        due("less is left", x.skew(0), 70);
        x.put(0, 0);
        due("put() in between", x.skew(3), 110);
        CloseClocks last = Edges.calm("2,010");
        last.rate(0, 110);
        last.go(4);
        due("behind the last", last.skew(3), 40);
    }

    // ---- 16

    private static void spread() {
        EDGES.hold(16, "OUTSIDE: h (1 to 5); STATE: no NET", () -> {
            EDGES.bounds("h", Edges::busy, OUTSIDE, 1, 5, h -> x -> x.spread(h));
            EDGES.refused("least without a net", CloseClocks::new, STATE, x -> x.spread(1));
            EDGES.refused("most without a net", CloseClocks::new, STATE, x -> x.spread(5));
        });
        EDGES.hold(16, FIRST_REFUSAL, () -> {
            EDGES.refused("too small without a net", CloseClocks::new, OUTSIDE, x -> x.spread(0));
            EDGES.refused("too large without a net", CloseClocks::new, OUTSIDE, x -> x.spread(6));
        });
        EDGES.hold(16, "SPREAD; NONE.", SeenEdgesTest::noneSoFarApart);
        EDGES.hold(16, "SPREAD by h: the greatest SKEW of any two whose HOPS are h", SeenEdgesTest::spreadByEachNumber);
    }

    private static long[] spreads(CloseClocks x) {
        long[] all = new long[5];
        for (int h = 1; h <= 5; h++) {
            all[h - 1] = x.spread(h);
        }
        return all;
    }

    private static void noneSoFarApart() {
        EDGES.dueAll("two", spreads(Check.withNet("2,010")), 0, NONE, NONE, NONE, NONE);
        EDGES.dueAll("two and four alone", spreads(Check.withNet("6,010")), 0, NONE, NONE, NONE, NONE);
        EDGES.dueAll("all linked", spreads(Check.withNet(Edges.WHOLE)), 0, NONE, NONE, NONE, NONE);
        EDGES.dueAll("a row, level", spreads(Check.withNet(ROW_OF_SIX)), 0, 0, 0, 0, 0);
        EDGES.dueAll("a ring", spreads(Check.withNet(ROW_OF_SIX + ",450")), 0, 0, 0, NONE, NONE);
    }

    private static void spreadByEachNumber() {
        CloseClocks x = Check.withNet(ROW_OF_SIX);
        x.put(5, 1000000);
        EDGES.dueAll("the first of the row", spreads(x), 1000000, 1000000, 1000000, 1000000, 1000000);
        x.put(5, 1);
        x.put(0, 2);
        x.put(1, 4);
        x.put(2, 8);
        x.put(3, 16);
        x.put(4, 32);
        EDGES.dueAll("ever more", spreads(x), 16, 24, 28, 30, 31);
        CloseClocks parts = Check.withNet("5,010,120");
        parts.put(3, 900);
        parts.put(4, 800);
        EDGES.dueAll("those without a way do not count", spreads(parts), 0, 0, NONE, NONE, NONE);
    }

    // ---- 17

    private static void worst() {
        EDGES.hold(17, "WORST for n TICKS (1 to 12)", () ->
            EDGES.bounds("n", Edges::busy, OUTSIDE, 1, 12, n -> x -> x.worst(n, 0)));
        EDGES.hold(17, "OUTSIDE: n, what; STATE: no NET", () -> {
            EDGES.bounds("what", Edges::busy, OUTSIDE, 0, 1, what -> x -> x.worst(12, what));
            EDGES.refused("least without a net", CloseClocks::new, STATE, x -> x.worst(1, 0));
            EDGES.refused("most without a net", CloseClocks::new, STATE, x -> x.worst(12, 1));
        });
        EDGES.hold(17, FIRST_REFUSAL, () -> {
            EDGES.refused("too few without a net", CloseClocks::new, OUTSIDE, x -> x.worst(0, 0));
            EDGES.refused("too many without a net", CloseClocks::new, OUTSIDE, x -> x.worst(13, 0));
            EDGES.refused("no such what without a net", CloseClocks::new, OUTSIDE, x -> x.worst(1, 2));
        });
        EDGES.hold(17, "of several sets that of the least sum of 2 to the power of their numbers", SeenEdgesTest::leastSet);
        EDGES.hold(17, "each of them the one or the other", SeenEdgesTest::noneOneAndAllOfRate110);
        EDGES.hold(17, "the greatest LOCAL behind n TICKS from now", SeenEdgesTest::behindTheLastTickAlone);
        EDGES.hold(17, "(as it would be told for all these TICKS, ahead of the first one)", SeenEdgesTest::ratesToldDoNotMatter);
        EDGES.hold(17, "(Nothing is altered by it.)", SeenEdgesTest::nothingIsAltered);
        EDGES.hold(17, "WORST: what = 0 how much, 1 by which NODES, as bits", SeenEdgesTest::behindTheLastTickOfAll);
    }

    private static void dueWorst(String what, CloseClocks x, int n, int much, int by) {
        due(what + ", how much", x.worst(n, 0), much);
        due(what + ", by which", x.worst(n, 1), by);
    }

    private static void leastSet() {
        dueWorst("of two level ones", Check.withNet("2,010"), 1, 20, 1);
        dueWorst("of six level ones", Check.withNet(Edges.WHOLE), 1, 20, 1);
        dueWorst("the last two of six", Check.withNet("6,540"), 1, 20, 16);
        CloseClocks x = Check.withNet("6,540");
        x.put(5, 1);
        dueWorst("the last of six", x, 1, 21, 32);
    }

    private static void noneOneAndAllOfRate110() {
        CloseClocks none = Check.withNet("2,010");
        none.set(0, 40);
        none.set(1, 60);
        none.put(0, 39);
        dueWorst("none", none, 2, 39, 0);
        CloseClocks one = Check.withNet("2,010");
        one.put(1, 1000);
        dueWorst("the one ahead", one, 1, 1010, 2);
        CloseClocks all = Check.withNet("2,011");
        all.set(0, 60);
        all.set(1, 50);
        all.put(1, 50);
        dueWorst("all", all, 4, 150, 3);
    }

    private static void behindTheLastTickAlone() {
        CloseClocks x = Check.withNet("2,010");
        x.set(1, 60);
        x.put(0, 1000);
        dueWorst("behind one", x, 1, 960, 1);
        dueWorst("behind two", x, 2, 920, 1);
        dueWorst("behind twelve", x, 12, 520, 1);
        x.go(1);
        dueWorst("from now", x, 1, 900, 1);
    }

    private static void ratesToldDoNotMatter() {
        CloseClocks x = Check.withNet("2,010");
        x.rate(0, 90);
        x.rate(1, 110);
        dueWorst("rates the other way", x, 1, 20, 1);
        due("they stay", x.node(0, 1), 90);
        due("they stay", x.node(1, 1), 110);
    }

    private static void nothingIsAltered() {
        CloseClocks x = Edges.busy();
        x.worst(12, 0);
        x.worst(1, 1);
        due("all goes on the same", Edges.future(x), Edges.future(Edges.busy()));
        CloseClocks late = Check.withNet("2,013");
        late.worst(12, 0);
        late.worst(1, 1);
        due("nobody has become fast", late.count(6), 0);
        due("all that never went goes on the same", Edges.future(late), Edges.future(Check.withNet("2,013")));
    }

    private static void behindTheLastTickOfAll() {
        CloseClocks x = Check.withNet("2,010");
        for (int i = 0; i < 90; i++) {
            x.go(100);
        }
        due("no tick more", x.go(1), STATE);
        dueWorst("though no tick may go by", x, 1, 20, 1);
        dueWorst("though twelve may not go by", x, 12, 130, 1);
    }
}
