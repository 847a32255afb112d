import java.math.BigInteger;
import java.util.ArrayList;
import java.util.List;

/** The edges of promises 18 to 21: images, counts, the digest; and of an object's last call. */
public final class KeptEdgesTest {
    private static final int NONE = Edges.NONE;
    private static final int OUTSIDE = Edges.OUTSIDE;
    private static final int STATE = Edges.STATE;

    private static final Edges EDGES = new Edges();

    public static void main(String[] args) {
        image();
        restore();
        restoredParts();
        restoreLeaves();
        count();
        digest();
        objects();
        EDGES.end(18, 21);
    }

    private static void due(String what, long got, long want) {
        EDGES.due(what, got, want);
    }

    // ---- 18

    private static void image() {
        EDGES.hold(18, "how many TICKS. STATE: no NET.", KeptEdgesTest::imageWithoutNet);
        EDGES.hold(18, "the greatest LOCAL: how many TICKS", KeptEdgesTest::imageOfNoneAndOfAllTicks);
        EDGES.hold(18, "An IMAGE is kept (one; the latest)", KeptEdgesTest::theLatestImage);
        EDGES.hold(18, "An IMAGE is kept", KeptEdgesTest::imageAltersNothingElse);
    }

    private static void imageWithoutNet() {
        EDGES.refused("at first", CloseClocks::new, STATE, x -> x.image());
        CloseClocks x = new CloseClocks();
        x.image();
        Check.type(x, "2,010");
        x.net();
        due("none was kept", x.restore(), STATE);
    }

    private static void imageOfNoneAndOfAllTicks() {
        CloseClocks x = Check.withNet("2,010");
        due("none", x.image(), 0);
        x.go(1);
        due("one", x.image(), 1);
        due("all", Edges.atLastTick().image(), 9000);
    }

    private static void theLatestImage() {
        CloseClocks x = Check.withNet("2,010");
        x.image();
        x.put(0, 11);
        x.go(1);
        x.image();
        x.put(0, 12);
        x.go(1);
        due("the latest", x.restore(), 1);
        due("clock of the latest", x.node(0, 0), 111);
        due("the earlier one is gone", x.restore(), 1);
    }

    private static void imageAltersNothingElse() {
        CloseClocks x = Edges.busy();
        long before = x.digest();
        due("image", x.image(), 8);
        due("all is the same", x.digest(), before);
        x.restore();
        due("restored at once, all is the same", x.digest(), before);
    }

    // ---- 19

    private static void restore() {
        EDGES.hold(19, "STATE: none was kept of this NET.", KeptEdgesTest::noneWasKept);
        EDGES.hold(19, "All these are as the IMAGE keeps them: how many TICKS", KeptEdgesTest::restoredEachTime);
    }

    private static CloseClocks unkept() {
        CloseClocks x = Check.withNet("2,013");
        x.go(3);
        Check.type(x, "2,01");
        return x;
    }

    private static CloseClocks keptOfAnother() {
        CloseClocks x = Check.withNet("2,013");
        x.go(3);
        x.image();
        Check.type(x, "2,013");
        x.net();
        x.go(1);
        return x;
    }

    private static void noneWasKept() {
        EDGES.refused("without a net", CloseClocks::new, STATE, x -> x.restore());
        EDGES.refused("no image", KeptEdgesTest::unkept, STATE, x -> x.restore());
        EDGES.refused("an image of another net of the same text", KeptEdgesTest::keptOfAnother, STATE, x -> x.restore());
        CloseClocks x = keptOfAnother();
        due("an image of this one", x.image(), 1);
        due("restored", x.restore(), 1);
    }

    private static void restoredEachTime() {
        CloseClocks x = Check.withNet("2,010");
        due("of no tick", x.image(), 0);
        for (int i = 1; i <= 3; i++) {
            x.go(100);
            due("time " + i, x.restore(), 0);
            due("clock, time " + i, x.node(1, 0), 0);
        }
        CloseClocks last = Edges.atLastTick();
        last.image();
        last.put(0, 0);
        due("of all ticks", last.restore(), 9000);
        due("no tick more", last.go(1), STATE);
    }

    // ---- 19, part by part

    private static void restoredParts() {
        EDGES.hold(19, "of CLOCKS", KeptEdgesTest::clocks);
        EDGES.hold(19, "(also those of TICKS AGO)", KeptEdgesTest::clocksOfTicksAgo);
        EDGES.hold(19, "RATES, ERRORS, DELAYS, who is FAST", KeptEdgesTest::rates);
        EDGES.hold(19, "ERRORS, DELAYS, who is FAST", KeptEdgesTest::errors);
        EDGES.hold(19, "DELAYS, who is FAST", KeptEdgesTest::delays);
        EDGES.hold(19, "who is FAST and was", KeptEdgesTest::whoIsFast);
        EDGES.hold(19, "and was for how many TICKS", KeptEdgesTest::forHowManyTicks);
        EDGES.hold(19, "how many TICKS there were", KeptEdgesTest::howManyTicks);
        EDGES.hold(19, "how many TICKS there were, the greatest LOCAL", KeptEdgesTest::greatestLocal);
    }

    private static void clocks() {
        CloseClocks x = Check.withNet("6,010");
        x.put(0, 1000000);
        x.put(5, 50);
        x.image();
        x.put(0, 0);
        x.put(5, 70);
        x.restore();
        due("of the first", x.node(0, 0), 1000000);
        due("of the last", x.node(5, 0), 50);
    }

    private static void clocksOfTicksAgo() {
        CloseClocks x = Edges.calm("2,010");
        x.rate(1, 90);
        x.go(4);
        x.image();
        x.put(1, 777);
        x.restore();
        EDGES.dueAll("behind put()", Edges.guesses(x), 360, 370, 380, 390);
        x.go(2);
        x.restore();
        EDGES.dueAll("behind ticks", Edges.guesses(x), 360, 370, 380, 390);
        CloseClocks early = Edges.calm("2,010");
        early.image();
        early.go(5);
        early.restore();
        EDGES.dueAll("not so many ticks", Edges.guesses(early), 0, 100, 200, 300);
    }

    private static void rates() {
        CloseClocks x = Check.withNet("6,010");
        x.rate(0, 90);
        x.rate(5, 110);
        x.image();
        x.rate(0, 110);
        x.rate(5, 90);
        x.worst(1, 0);
        x.restore();
        due("of the first", x.node(0, 1), 90);
        due("of the last", x.node(5, 1), 110);
        x.go(1);
        due("the last goes by it", x.node(5, 0), 110);
    }

    private static void errors() {
        CloseClocks x = Check.withNet("6,450");
        x.wrong(4, 5, 9);
        x.wrong(5, 4, -9);
        x.image();
        x.wrong(4, 5, 0);
        x.wrong(5, 4, 1);
        x.restore();
        due("one way", x.link(4, 5, 1), 9);
        due("the other way", x.link(5, 4, 1), -9);
    }

    private static void delays() {
        CloseClocks x = Check.withNet("6,010,450");
        x.delay(4, 5, 3);
        x.image();
        x.delay(4, 5, 0);
        x.delay(0, 1, 2);
        x.restore();
        due("of the last, one way", x.link(4, 5, 0), 3);
        due("of the last, the other way", x.link(5, 4, 0), 3);
        due("of the first", x.link(0, 1, 0), 0);
        due("of the first, the other way", x.link(1, 0, 0), 0);
    }

    /** The second is fast, and was in one tick; then the first, and the second no more. */
    private static CloseClocks turnedAndRestored() {
        CloseClocks x = Check.withNet("2,010");
        x.put(0, 20);
        x.go(1);
        x.image();
        x.go(1);
        x.put(1, 5000);
        x.go(3);
        EDGES.due("the first has become fast", x.node(0, 2), 1);
        EDGES.due("the second is no more", x.node(1, 2), 0);
        EDGES.due("it was in two ticks", x.node(1, 8), 2);
        EDGES.due("greatest local", x.skew(3) > 4000 ? 1 : 0, 1);
        x.restore();
        return x;
    }

    private static void whoIsFast() {
        CloseClocks x = turnedAndRestored();
        due("the first", x.node(0, 2), 0);
        due("the second", x.node(1, 2), 1);
        due("how many", x.count(6), 1);
        due("it goes on so", x.go(1), 0);
    }

    private static void forHowManyTicks() {
        CloseClocks x = turnedAndRestored();
        due("the first", x.node(0, 8), 0);
        due("the second", x.node(1, 8), 1);
    }

    private static void howManyTicks() {
        CloseClocks x = turnedAndRestored();
        due("ticks", x.count(3), 1);
        x.go(1);
        due("they go on", x.count(3), 2);
    }

    private static void greatestLocal() {
        CloseClocks x = turnedAndRestored();
        due("greatest local", x.skew(3), 10);
    }

    // ---- 19, what is no part of it

    private static void restoreLeaves() {
        EDGES.hold(19, "STEP (what = 0), BOOST (1) become v", () -> {
            due("step", left(x -> x.set(0, 500)).count(4), 500);
            due("boost", left(x -> x.set(1, 60)).count(5), 60);
        });
        EDGES.hold(19, "A letter comes behind THE PAGE", () -> due("letters", left(x -> x.letter('2')).count(2), 1));
        EDGES.hold(19, "7 how often a NET was read", () -> due("nets", left(x -> x.go(1)).count(7), 1));
        EDGES.hold(19, "8 TICKS ever (restore() leaves them)", () -> due("ticks ever", left(x -> x.go(100)).count(8), 100));
    }

    private static CloseClocks left(Edges.Call told) {
        CloseClocks x = Check.withNet("2,010");
        x.image();
        told.on(x);
        x.restore();
        return x;
    }

    // ---- 20

    private static void count() {
        EDGES.hold(20, "8 TICKS ever (restore() leaves them). OUTSIDE.", () -> {
            EDGES.bounds("what", Edges::busy, OUTSIDE, 0, 8, what -> x -> x.count(what));
            EDGES.bounds("what without a net", CloseClocks::new, OUTSIDE, 0, 8, what -> x -> x.count(what));
        });
        EDGES.hold(20, "How many: 0 NODES, 1 LINKS, 2 letters of THE PAGE, 3 TICKS of this NET, 4 STEP, 5 BOOST", () ->
            EDGES.dueAll("without a net", Edges.counts(new CloseClocks()), 0, 0, 0, 0, 20, 10, 0, 0, 0));
        EDGES.hold(20, "0 NODES, 1 LINKS", KeptEdgesTest::leastAndMostNodesAndLinks);
        EDGES.hold(20, "2 letters of THE PAGE", KeptEdgesTest::noneToAllLetters);
        EDGES.hold(20, "3 TICKS of this NET", KeptEdgesTest::noneToAllTicks);
        EDGES.hold(20, "4 STEP, 5 BOOST", KeptEdgesTest::leastAndGreatestStepAndBoost);
        EDGES.hold(20, "6 who are FAST", KeptEdgesTest::noneToAllFast);
        EDGES.hold(20, "7 how often a NET was read", KeptEdgesTest::refusedNetsDoNotCount);
        EDGES.hold(20, "8 TICKS ever", KeptEdgesTest::ticksOfAllNets);
    }

    private static void leastAndMostNodesAndLinks() {
        CloseClocks least = Check.withNet("2,010");
        due("least nodes", least.count(0), 2);
        due("least links", least.count(1), 1);
        CloseClocks most = Check.withNet(Edges.WHOLE);
        due("most nodes", most.count(0), 6);
        due("most links", most.count(1), 15);
    }

    private static void noneToAllLetters() {
        CloseClocks x = new CloseClocks();
        due("none", x.count(2), 0);
        Check.type(x, Edges.WHOLE);
        due("all", x.count(2), 61);
        x.letter('0');
        due("one too many", x.count(2), 61);
        x.net();
        due("behind net()", x.count(2), 0);
    }

    private static void noneToAllTicks() {
        due("none", Check.withNet("2,010").count(3), 0);
        CloseClocks x = Edges.atLastTick();
        due("all", x.count(3), 9000);
        x.go(1);
        due("one too many", x.count(3), 9000);
        due("ever, one too many", x.count(8), 9000);
        Check.type(x, "2,010");
        x.net();
        due("of another net", x.count(3), 0);
    }

    private static void leastAndGreatestStepAndBoost() {
        CloseClocks x = new CloseClocks();
        x.set(0, 500);
        x.set(1, 60);
        due("greatest step", x.count(4), 500);
        due("greatest boost", x.count(5), 60);
        x.set(0, 1);
        x.set(1, 1);
        due("least step", x.count(4), 1);
        due("least boost", x.count(5), 1);
    }

    private static void noneToAllFast() {
        CloseClocks x = Check.withNet("6,013,233,453");
        due("none", x.count(6), 0);
        x.go(1);
        due("all, by their late guesses", x.count(6), 6);
        x.put(5, 5000);
        x.go(1);
        due("who was, but is no more", x.count(6), 5);
    }

    private static void refusedNetsDoNotCount() {
        CloseClocks x = new CloseClocks();
        x.net();
        due("an empty page", x.count(7), 0);
        for (int many = 1; many <= 3; many++) {
            Check.type(x, "2,010");
            x.net();
            x.net();
            due("the same " + many + " times", x.count(7), many);
        }
    }

    private static void ticksOfAllNets() {
        CloseClocks x = Check.withNet("2,010");
        x.go(100);
        x.image();
        x.go(7);
        x.restore();
        x.worst(12, 0);
        x.digest();
        due("worst() and digest() are no ticks", x.count(8), 107);
        Check.type(x, "3,010");
        x.net();
        x.go(1);
        x.go(0);
        due("of both nets", x.count(8), 108);
        due("of this one", x.count(3), 1);
    }

    // ---- 21

    private static void digest() {
        EDGES.hold(21, "h is 1663", () ->
            due("without a net", new CloseClocks().digest(), folded(numbers(new CloseClocks(), "", ""))));
        EDGES.hold(21, "if there is a NET skew() for 0 to 3", KeptEdgesTest::digestOfEmptyAndOfNet);
        EDGES.hold(21, "(as longs, wrapping)", KeptEdgesTest::digestWraps);
        EDGES.hold(21, "of each NODE node() for 0 to 8", KeptEdgesTest::digestOfNodesAlone);
        EDGES.hold(21, "of each two NEIGHBOURS, the lesser one first, link() for 0 to 3 both ways (from the lesser one first)",
            KeptEdgesTest::digestOfNeighbours);
        EDGES.hold(21, "each letter of THE PAGE by its code", KeptEdgesTest::digestOfLetters);
        EDGES.hold(21, "worst() by 3 for 0, 1", KeptEdgesTest::digestAltersNothing);
    }

    /** All numbers of the digest, asked one by one; pairs as "01 12", in the order that is due. */
    private static List<Integer> numbers(CloseClocks x, String pairs, String page) {
        List<Integer> all = new ArrayList<>();
        for (int i = 0; i < 9 * x.count(0); i++) {
            all.add(x.node(i / 9, i % 9));
        }
        for (int i = 0; i < pairs.length(); i += 3) {
            int v = pairs.charAt(i) - '0';
            int w = pairs.charAt(i + 1) - '0';
            for (int what = 0; what <= 7; what++) {
                all.add(what <= 3 ? x.link(v, w, what) : x.link(w, v, what - 4));
            }
        }
        if (x.count(0) > 0) {
            all.addAll(List.of(x.skew(0), x.skew(1), x.skew(2), x.skew(3)));
            all.addAll(List.of(x.spread(1), x.spread(2), x.spread(3), x.spread(4), x.spread(5)));
            all.addAll(List.of(x.worst(3, 0), x.worst(3, 1)));
        }
        page.chars().forEach(all::add);
        for (int what = 0; what <= 8; what++) {
            all.add(x.count(what));
        }
        return all;
    }

    /** Without any wrapping on the way: only the last 64 bits of the whole number are left at the end. */
    private static long folded(List<Integer> numbers) {
        BigInteger h = BigInteger.valueOf(1663);
        for (int number : numbers) {
            h = h.multiply(BigInteger.valueOf(31)).add(BigInteger.valueOf(number));
        }
        return h.longValue();
    }

    private static void digestOfEmptyAndOfNet() {
        CloseClocks x = new CloseClocks();
        long h = 1663;
        for (int number : new int[] {0, 0, 0, 0, 20, 10, 0, 0, 0}) {
            h = 31 * h + number;
        }
        due("without a net", x.digest(), h);
        Check.type(x, "2,010");
        x.net();
        due("with a net", x.digest(), folded(numbers(x, "01", "")));
    }

    private static void digestWraps() {
        CloseClocks x = new CloseClocks();
        Check.type(x, "~".repeat(61));
        due("by a full page", x.digest(), folded(numbers(x, "", "~".repeat(61))));
        CloseClocks below = Check.withNet("6,010");
        due("by numbers below 0", below.digest(), folded(numbers(below, "01", "")));
        CloseClocks whole = Check.withNet(Edges.WHOLE);
        whole.go(100);
        due("by many numbers", whole.digest(),
            folded(numbers(whole, "01 02 03 04 05 12 13 14 15 23 24 25 34 35 45", "")));
    }

    private static void digestOfNodesAlone() {
        CloseClocks x = Check.withNet("4,120");
        x.put(0, 5);
        x.put(3, 1000000);
        x.rate(3, 110);
        due("the first without neighbours", x.node(0, 4), NONE);
        due("digest", x.digest(), folded(numbers(x, "12", "")));
    }

    private static void digestOfNeighbours() {
        CloseClocks x = Check.withNet("5,431,402,200,103,213");
        x.wrong(4, 3, 9);
        x.wrong(3, 4, -9);
        x.wrong(0, 2, 4);
        x.put(1, 30);
        x.go(2);
        due("in the order of nodes, not of the text", x.digest(), folded(numbers(x, "01 02 04 12 34", "")));
    }

    private static void digestOfLetters() {
        CloseClocks x = Check.withNet("2,010");
        due("none", x.digest(), folded(numbers(x, "01", "")));
        x.letter(32);
        x.letter(126);
        due("the least and the greatest", x.digest(), folded(numbers(x, "01", " ~")));
        x.blank();
        due("none again", x.digest(), folded(numbers(x, "01", "")));
    }

    private static void digestAltersNothing() {
        CloseClocks x = Edges.busy();
        due("the same again", x.digest(), x.digest());
        due("all goes on the same", Edges.future(x), Edges.future(Edges.busy()));
    }

    // ---- objects

    private static void objects() {
        EDGES.hold(21, "An object is used for at most 512 calls after it has been made", KeptEdgesTest::lastCall);
        EDGES.hold(21, "How the state is held inside the object is free", KeptEdgesTest::twoObjects);
    }

    private static void lastCall() {
        CloseClocks x = Check.withNet(Edges.WHOLE);
        CloseClocks fresh = Check.withNet(Edges.WHOLE);
        for (int calls = 62; calls < 511; calls++) {
            x.worst(12, 1);
        }
        due("the 512th call", x.digest(), fresh.digest());
    }

    private static void twoObjects() {
        CloseClocks one = Edges.busy();
        CloseClocks other = Check.withNet("2,010");
        other.set(0, 500);
        other.go(9);
        other.image();
        due("one is as if alone", Edges.future(one), Edges.future(Edges.busy()));
        EDGES.dueAll("so is the other", Edges.counts(other), 2, 1, 0, 9, 500, 10, 0, 1, 9);
    }
}
