/** The edges of promises 1 to 5: a new object, letters, the page, its first fault, nets as texts. */
public final class TextEdgesTest {
    private static final int NONE = Edges.NONE;
    private static final int UNKNOWN = Edges.UNKNOWN;
    private static final int OUTSIDE = Edges.OUTSIDE;
    private static final int STATE = Edges.STATE;
    private static final int FULL = Edges.FULL;

    private static final Edges EDGES = new Edges();

    public static void main(String[] args) {
        newObject();
        letter();
        blank();
        fault();
        net();
        netForgets();
        EDGES.end(1, 5);
    }

    private static void due(String what, long got, long want) {
        EDGES.due(what, got, want);
    }

    private static CloseClocks typed(String text) {
        CloseClocks x = new CloseClocks();
        Check.type(x, text);
        return x;
    }

    private static CloseClocks full() {
        return typed(Edges.WHOLE);
    }

    // ---- 1

    private static void newObject() {
        EDGES.hold(1, "No NET.", TextEdgesTest::nodesUnknownAtFirst);
        EDGES.hold(1, "At first there is none.", TextEdgesTest::neighboursUnknownAtFirst);
        EDGES.hold(1, "STATE: no NET", TextEdgesTest::refusedWithoutNet);
        EDGES.hold(1, "`CloseClocks()`: No NET.", () ->
            EDGES.dueAll("counts", Edges.counts(new CloseClocks()), 0, 0, 0, 0, 20, 10, 0, 0, 0));
        EDGES.hold(1, "STEP (1 to 500; 20 at first)", () -> due("step", new CloseClocks().set(0, 1), 20));
        EDGES.hold(1, "BOOST (1 to 60; 10 at first)", () -> due("boost", new CloseClocks().set(1, 1), 10));
    }

    private static void nodesUnknownAtFirst() {
        for (int v = 0; v < 6; v++) {
            int node = v;
            EDGES.refused("node " + v, CloseClocks::new, UNKNOWN, x -> x.node(node, 0));
            EDGES.refused("rate " + v, CloseClocks::new, UNKNOWN, x -> x.rate(node, 100));
            EDGES.refused("put " + v, CloseClocks::new, UNKNOWN, x -> x.put(node, 0));
            EDGES.refused("hops " + v, CloseClocks::new, UNKNOWN, x -> x.hops(node, node));
        }
    }

    private static void neighboursUnknownAtFirst() {
        EDGES.refused("link", CloseClocks::new, UNKNOWN, x -> x.link(0, 1, 0));
        EDGES.refused("wrong", CloseClocks::new, UNKNOWN, x -> x.wrong(0, 1, 0));
        EDGES.refused("delay", CloseClocks::new, UNKNOWN, x -> x.delay(1, 0, 0));
    }

    private static void refusedWithoutNet() {
        EDGES.refused("go", CloseClocks::new, STATE, x -> x.go(1));
        EDGES.refused("skew", CloseClocks::new, STATE, x -> x.skew(0));
        EDGES.refused("spread", CloseClocks::new, STATE, x -> x.spread(1));
        EDGES.refused("worst", CloseClocks::new, STATE, x -> x.worst(1, 0));
        EDGES.refused("image", CloseClocks::new, STATE, x -> x.image());
        EDGES.refused("restore", CloseClocks::new, STATE, x -> x.restore());
        EDGES.refused("net", CloseClocks::new, STATE, x -> x.net());
    }

    // ---- 2

    private static void letter() {
        EDGES.hold(2, "OUTSIDE: code (32 to 126)", () ->
            EDGES.bounds("code", Edges::busy, OUTSIDE, 32, 126, code -> x -> x.letter(code)));
        EDGES.hold(2, "by its code", TextEdgesTest::everyCodeIsKept);
        EDGES.hold(2, "how many THE PAGE has", TextEdgesTest::lettersUpToTheLast);
        EDGES.hold(2, "FULL: there are 61", TextEdgesTest::noLetterBehindTheLast);
        EDGES.hold(2, "of several the first as told by each call", TextEdgesTest::outsideAheadOfFull);
    }

    private static void everyCodeIsKept() {
        for (int code = 32; code <= 126; code++) {
            CloseClocks x = new CloseClocks();
            due("letter " + code, x.letter(code), 1);
            long h = 31L * 1663 + code;
            for (int number : new int[] {0, 0, 1, 0, 20, 10, 0, 0, 0}) {
                h = 31 * h + number;
            }
            due("digest with " + code, x.digest(), h);
        }
    }

    private static void lettersUpToTheLast() {
        CloseClocks x = new CloseClocks();
        for (int many = 1; many <= 61; many++) {
            due("letter " + many, x.letter('~'), many);
            due("count " + many, x.count(2), many);
        }
    }

    private static void noLetterBehindTheLast() {
        EDGES.taken("the last", () -> typed(Edges.WHOLE.substring(0, 60)), x -> x.letter('2'));
        EDGES.refused("one more", TextEdgesTest::full, FULL, x -> x.letter('0'));
        EDGES.refused("least code", TextEdgesTest::full, FULL, x -> x.letter(32));
        EDGES.refused("greatest code", TextEdgesTest::full, FULL, x -> x.letter(126));
        CloseClocks x = full();
        x.blank();
        due("room again", x.letter('5'), 1);
        CloseClocks read = full();
        due("the full page is a net", read.net(), 6);
        due("room again behind net()", read.letter('5'), 1);
    }

    private static void outsideAheadOfFull() {
        EDGES.refused("too small", TextEdgesTest::full, OUTSIDE, x -> x.letter(31));
        EDGES.refused("too large", TextEdgesTest::full, OUTSIDE, x -> x.letter(127));
    }

    // ---- 3

    private static void blank() {
        EDGES.hold(3, "how many letters it had", TextEdgesTest::blankOfNoneOneAndAll);
        EDGES.hold(3, "THE PAGE is empty", TextEdgesTest::emptyBehindBlank);
        EDGES.hold(3, "`int blank()`: THE PAGE is empty: how many letters it had.", TextEdgesTest::blankLeavesTheRest);
    }

    private static void blankOfNoneOneAndAll() {
        due("none", new CloseClocks().blank(), 0);
        due("one", typed(" ").blank(), 1);
        due("all", full().blank(), 61);
        CloseClocks x = Check.withNet("2,010");
        due("behind net()", x.blank(), 0);
    }

    private static void emptyBehindBlank() {
        CloseClocks x = full();
        x.blank();
        due("count", x.count(2), 0);
        due("fault", x.fault(), 0);
        due("blank again", x.blank(), 0);
        due("digest", x.digest(), new CloseClocks().digest());
        due("net", x.net(), STATE);
        Check.type(x, "2,0");
        due("no old letter comes back", x.fault(), 3);
        due("no old letter makes it a net", x.net(), STATE);
    }

    private static void blankLeavesTheRest() {
        CloseClocks x = Edges.busy();
        due("blank", x.blank(), 4);
        Check.type(x, "2,01");
        due("typed again, all is the same", Edges.future(x), Edges.future(Edges.busy()));
    }

    // ---- 4

    private static void fault() {
        EDGES.hold(4, "how many letters it has, if there is none", TextEdgesTest::noFaultInBeginnings);
        EDGES.hold(4, "The place (from 0) of the first letter of THE PAGE with which, and those ahead of it, no NET begins",
            TextEdgesTest::firstFaultStays);
        EDGES.hold(4, "a digit 2 to 6, how many NODES", () -> follow("", "23456"));
        EDGES.hold(4, "then for each LINK \",\"", TextEdgesTest::commas);
        EDGES.hold(4, "the digits of two unlike NODES of it", TextEdgesTest::digitsOfNodes);
        EDGES.hold(4, "a digit 0 to 3, its DELAY", TextEdgesTest::digitsOfDelay);
        EDGES.hold(4, "no two NODES twice (in whichever order: the second digit is wrong then", TextEdgesTest::noneTwice);
        EDGES.hold(4, "also where no other one is left", TextEdgesTest::noOtherLeft);
        EDGES.hold(4, "`int fault()`: The place (from 0)", TextEdgesTest::faultAltersNothing);
    }

    /** Of all letters just these go on from a text as a net may. */
    private static void follow(String text, String letters) {
        for (char sign = 32; sign <= 126; sign++) {
            int place = letters.indexOf(sign) >= 0 ? text.length() + 1 : text.length();
            due("fault of " + text + sign, typed(text + sign).fault(), place);
        }
    }

    private static void noFaultInBeginnings() {
        for (int many = 0; many <= 61; many++) {
            String text = Edges.WHOLE.substring(0, many);
            due("fault of " + text, typed(text).fault(), many);
        }
        due("fault of a page just emptied", Check.withNet("2,010").fault(), 0);
    }

    private static void firstFaultStays() {
        due("the first letter", typed("1,010").fault(), 0);
        due("the first of several", typed("7.99").fault(), 0);
        due("letters behind it do not matter", typed("3,01x,120").fault(), 4);
        due("a net behind it does not matter", typed("x2,010").fault(), 0);
        due("the second", typed("3010").fault(), 1);
        due("the last of a full page", typed(Edges.WHOLE.substring(0, 60) + "4").fault(), 60);
        due("in a full page", typed(" " + Edges.WHOLE.substring(0, 60)).fault(), 0);
    }

    private static void commas() {
        follow("2", ",");
        follow("6", ",");
        follow("2,010", ",");
        follow("3,010,123", ",");
        follow(Edges.WHOLE.substring(0, 57), ",");
    }

    private static void digitsOfNodes() {
        follow("2,", "01");
        follow("3,", "012");
        follow("4,", "0123");
        follow("5,", "01234");
        follow("6,", "012345");
        follow("2,0", "1");
        follow("2,1", "0");
        follow("3,1", "02");
        follow("4,0", "123");
        follow("5,4", "0123");
        follow("6,5", "01234");
        follow("6,0", "12345");
    }

    private static void digitsOfDelay() {
        follow("2,01", "0123");
        follow("2,10", "0123");
        follow("6,45", "0123");
        follow("3,010,21", "0123");
        follow(Edges.WHOLE.substring(0, 60), "0123");
    }

    private static void noneTwice() {
        follow("3,010,0", "2");
        follow("3,010,1", "2");
        follow("3,103,0", "2");
        follow("3,103,1", "2");
        follow("3,010,2", "01");
        follow("4,020,130,2", "13");
        follow("4,020,130,3", "02");
        follow("6,010,202,343,0", "345");
        follow("6,500,340,4", "0125");
        follow(Edges.WHOLE.substring(0, 59), "5");
    }

    private static void noOtherLeft() {
        follow("2,010,", "01");
        follow("2,010,0", "");
        follow("2,010,1", "");
        follow("4,010,020,030,", "0123");
        follow("4,010,020,030,0", "");
        follow("4,010,020,030,1", "23");
        follow("3,010,120,023", ",");
        follow("3,010,120,023,", "012");
        follow("3,010,120,023,2", "");
    }

    private static void faultAltersNothing() {
        CloseClocks x = Edges.busy();
        due("fault", x.fault(), 4);
        due("all goes on the same", Edges.future(x), Edges.future(Edges.busy()));
    }

    // ---- 5

    private static void net() {
        EDGES.hold(5, "STATE: it is none.", TextEdgesTest::wrongTexts);
        EDGES.hold(5, "at least one LINK", TextEdgesTest::noLink);
        EDGES.hold(5, "THE PAGE is read as a NET", TextEdgesTest::beginningsAreNoNets);
        EDGES.hold(5, "how many NODES; THE PAGE is empty then", TextEdgesTest::leastAndGreatestNets);
        EDGES.hold(5, "(numbered from 0)", TextEdgesTest::firstAndLastNode);
        EDGES.hold(5, "CLOCK (0 at first), a RATE (90 to 110; 100 at first), and is FAST, or not (not, at first)", () ->
            EDGES.dueAll("node", Edges.node(Check.withNet("3,010"), 1), 0, 100, 0, 1, 0, 0, NONE, NONE, 0));
        EDGES.hold(5, "an ERROR for the other one (-9 to 9; 0 at first)", TextEdgesTest::noErrorAtFirst);
        EDGES.hold(5, "they change nothing", TextEdgesTest::refusedNetLeavesPageAndImage);
    }

    private static CloseClocks busyWith(String text) {
        CloseClocks x = Edges.busy();
        x.blank();
        Check.type(x, text);
        return x;
    }

    private static void isNone(String text) {
        EDGES.refused("net of '" + text + "'", () -> busyWith(text), STATE, x -> x.net());
    }

    private static void wrongTexts() {
        String[] texts = {"1,010", "7,010", "0,010", "2.010", "2,020", "2,000", "2,110", "2,014", "2,01/", "2,0100", "2,010 ",
            " 2,010", "2,010.010", "3,010,010", "3,010,103", "3,010,1200", "6,060", "2,010,010", "22,010"};
        for (String text : texts) {
            isNone(text);
        }
        isNone(Edges.WHOLE.substring(0, 60) + "4");
    }

    private static void noLink() {
        for (String text : new String[] {"", "2", "3", "4", "5", "6"}) {
            isNone(text);
        }
        due("one is enough", typed("2,010").net(), 2);
    }

    private static void beginningsAreNoNets() {
        for (int many = 0; many <= 61; many++) {
            String text = Edges.WHOLE.substring(0, many);
            due("net of " + text, typed(text).net(), many >= 5 && many % 4 == 1 ? 6 : STATE);
        }
    }

    private static void leastAndGreatestNets() {
        for (int nodes = 2; nodes <= 6; nodes++) {
            CloseClocks x = typed(nodes + ",103");
            due("nodes", x.net(), nodes);
            EDGES.dueAll("counts of " + nodes, Edges.counts(x), nodes, 1, 0, 0, 20, 10, 0, 1, 0);
            due("delay of " + nodes, x.link(0, 1, 0), 3);
            due("read once only", x.net(), STATE);
        }
        CloseClocks x = full();
        due("nodes of the greatest", x.net(), 6);
        EDGES.dueAll("counts of the greatest", Edges.counts(x), 6, 15, 0, 0, 20, 10, 0, 1, 0);
        due("its first link", x.link(1, 0, 0), 0);
        due("its last link", x.link(5, 4, 0), 2);
    }

    private static void firstAndLastNode() {
        for (int nodes = 2; nodes <= 6; nodes++) {
            CloseClocks x = Check.withNet(nodes + ",010");
            due("ahead of the first of " + nodes, x.node(-1, 0), UNKNOWN);
            due("the first of " + nodes, x.node(0, 0), 0);
            due("the last of " + nodes, x.node(nodes - 1, 0), 0);
            due("behind the last of " + nodes, x.node(nodes, 0), UNKNOWN);
        }
    }

    private static void noErrorAtFirst() {
        CloseClocks x = Check.withNet("2,010");
        due("error", x.link(0, 1, 1), 0);
        due("error", x.link(1, 0, 1), 0);
    }

    private static void refusedNetLeavesPageAndImage() {
        CloseClocks x = Edges.busy();
        due("net", x.net(), STATE);
        due("letters", x.count(2), 4);
        due("nets", x.count(7), 1);
        due("nodes", x.count(0), 4);
        due("image", x.restore(), 5);
    }

    // ---- 5, another net

    private static void netForgets() {
        EDGES.hold(5, "another one is gone", TextEdgesTest::oldNodesAndLinksGone);
        EDGES.hold(5, "gone with its CLOCKS", TextEdgesTest::oldClocksGone);
        EDGES.hold(5, "0, if there were not so many TICKS since the NET was read", TextEdgesTest::oldClocksOfTicksAgoGone);
        EDGES.hold(5, "CLOCKS, RATES", () -> forgotten("rate", x -> x.rate(0, 91), x -> x.node(0, 1), 100));
        EDGES.hold(5, "RATES, ERRORS", () -> forgotten("error", x -> x.wrong(0, 1, 9), x -> x.link(0, 1, 1), 0));
        EDGES.hold(5, "ERRORS, TICKS", TextEdgesTest::oldTicksGone);
        EDGES.hold(5, "the IMAGE;", () -> forgotten("image", x -> x.image(), x -> x.restore(), STATE));
        EDGES.hold(5, "STEP, BOOST stay", TextEdgesTest::stepAndBoostStay);
        EDGES.hold(5, "a digit 0 to 3, its DELAY;", () -> forgotten("delay", x -> x.delay(0, 1, 3), x -> x.link(1, 0, 0), 1));
    }

    private static final String AGAIN = "3,011,120";

    /** What was told of a net is not so of the same net read again. */
    private static void forgotten(String what, Edges.Call told, Edges.Call seen, long want) {
        CloseClocks x = Check.withNet(AGAIN);
        told.on(x);
        Check.type(x, AGAIN);
        x.net();
        due(what, seen.on(x), want);
    }

    private static void oldNodesAndLinksGone() {
        CloseClocks x = full();
        x.net();
        Check.type(x, "3,020");
        x.net();
        due("nodes", x.count(0), 3);
        due("links", x.count(1), 1);
        due("node 3", x.node(3, 0), UNKNOWN);
        due("link 0-1", x.link(0, 1, 0), UNKNOWN);
        due("hops 0-1", x.hops(0, 1), NONE);
        due("neighbours", x.node(2, 3), 1);
        Check.type(x, "6,010");
        x.net();
        due("nodes again", x.count(0), 6);
        due("link 0-2", x.link(0, 2, 0), UNKNOWN);
        due("node 5 alone", x.node(5, 3), 0);
    }

    private static void oldClocksGone() {
        CloseClocks x = Check.withNet("6,010");
        for (int v = 0; v < 6; v++) {
            x.put(v, 7000 + v);
        }
        Check.type(x, "2,010");
        x.net();
        due("clock 1", x.node(1, 0), 0);
        Check.type(x, "6,010");
        x.net();
        for (int v = 0; v < 6; v++) {
            due("clock " + v, x.node(v, 0), 0);
        }
    }

    private static void oldClocksOfTicksAgoGone() {
        CloseClocks x = Edges.calm("2,010");
        x.put(1, 4000);
        x.go(5);
        Check.type(x, "2,010");
        x.net();
        EDGES.dueAll("guesses", Edges.guesses(x), 0, 100, 200, 300);
    }

    private static void oldTicksGone() {
        CloseClocks x = Check.withNet(AGAIN);
        x.put(0, 900);
        x.go(4);
        due("fast", x.node(1, 2), 1);
        Check.type(x, AGAIN);
        x.net();
        EDGES.dueAll("counts", Edges.counts(x), 3, 2, 0, 0, 20, 10, 0, 2, 4);
        due("not fast", x.node(1, 2), 0);
        due("in no tick fast", x.node(1, 8), 0);
        due("greatest local", x.skew(3), 0);
    }

    private static void stepAndBoostStay() {
        CloseClocks x = Check.withNet(AGAIN);
        x.set(0, 500);
        x.set(1, 60);
        Check.type(x, AGAIN);
        x.net();
        due("step", x.count(4), 500);
        due("boost", x.count(5), 60);
    }
}
