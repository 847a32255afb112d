import java.util.function.ToIntFunction;

/** Each promise of the document by calls whose answers were worked out by hand. */
public final class PromisesTest {
    private static final int NONE = -100000001;
    private static final int UNKNOWN = -100000002;
    private static final int OUTSIDE = -100000003;
    private static final int STATE = -100000004;
    private static final int FULL = -100000005;
    private static final int[] FAR_OFF = {Integer.MIN_VALUE, -100000001, 1000001, Integer.MAX_VALUE};
    private static final String WHOLE =
        "6,010,021,032,043,050,121,132,143,150,231,242,253,340,351,452";

    private static final Check CHECK = new Check();

    public static void main(String[] args) {
        newObject();
        letter();
        blank();
        fault();
        net();
        netForgets();
        set();
        rate();
        put();
        wrong();
        delay();
        go();
        goUpToItsLimit();
        goTriggers();
        node();
        nodeLevels();
        link();
        hops();
        skew();
        spread();
        worst();
        image();
        restore();
        count();
        digest();
        CHECK.end();
    }

    private static void due(String what, long got, long want) {
        CHECK.due(what, got, want);
    }

    /** Every one of these numbers is refused so, and nothing is altered by it. */
    private static void refused(String what, CloseClocks x, int answer, ToIntFunction<Integer> call, int... numbers) {
        long before = x.digest();
        for (int number : numbers) {
            due(what + " with " + number, call.applyAsInt(number), answer);
        }
        for (int number : FAR_OFF) {
            due(what + " with " + number, call.applyAsInt(number), answer);
        }
        due(what + " refused alters nothing", x.digest(), before);
    }

    private static long mixed(long h, long... numbers) {
        for (long number : numbers) {
            h = 31 * h + number;
        }
        return h;
    }

    private static void newObject() {
        CloseClocks x = new CloseClocks();
        long[] counts = {0, 0, 0, 0, 20, 10, 0, 0, 0};
        for (int what = 0; what <= 8; what++) {
            due("1 count " + what, x.count(what), counts[what]);
        }
        due("1 digest", x.digest(), mixed(1663, counts));
        due("1 node", x.node(0, 0), UNKNOWN);
        due("1 node of no what", x.node(0, 9), UNKNOWN);
        due("1 link", x.link(0, 1, 0), UNKNOWN);
        due("1 hops", x.hops(0, 0), UNKNOWN);
        due("1 rate", x.rate(0, 100), UNKNOWN);
        due("1 rate outside", x.rate(0, 0), UNKNOWN);
        due("1 put", x.put(0, 1), UNKNOWN);
        due("1 wrong", x.wrong(0, 1, 1), UNKNOWN);
        due("1 delay", x.delay(0, 1, 1), UNKNOWN);
        due("1 go", x.go(1), STATE);
        due("1 go outside", x.go(0), OUTSIDE);
        due("1 skew", x.skew(3), STATE);
        due("1 skew outside", x.skew(4), OUTSIDE);
        due("1 spread", x.spread(1), STATE);
        due("1 spread outside", x.spread(6), OUTSIDE);
        due("1 worst", x.worst(1, 0), STATE);
        due("1 worst outside", x.worst(0, 0), OUTSIDE);
        due("1 image", x.image(), STATE);
        due("1 restore", x.restore(), STATE);
        due("1 net", x.net(), STATE);
        due("1 fault", x.fault(), 0);
        due("1 nothing altered", x.digest(), mixed(1663, counts));
    }

    private static void letter() {
        CloseClocks x = new CloseClocks();
        refused("2 letter", x, OUTSIDE, x::letter, 31, 127, 0, -1);
        due("2 least code", x.letter(32), 1);
        due("2 greatest code", x.letter(126), 2);
        for (int many = 3; many <= 61; many++) {
            due("2 letter " + many, x.letter('0'), many);
        }
        due("2 full", x.letter('0'), FULL);
        due("2 full again", x.letter(32), FULL);
        due("2 outside ahead of full", x.letter(31), OUTSIDE);
        due("2 outside ahead of full", x.letter(127), OUTSIDE);
        due("2 how many", x.count(2), 61);
        due("2 emptied", x.blank(), 61);
        due("2 room again", x.letter('2'), 1);
    }

    private static void blank() {
        CloseClocks x = new CloseClocks();
        due("3 blank of none", x.blank(), 0);
        Check.type(x, "9,x");
        due("3 blank of three", x.blank(), 3);
        due("3 count", x.count(2), 0);
        due("3 blank again", x.blank(), 0);
        Check.type(x, "2,010");
        due("3 the old letters are gone", x.net(), 2);
    }

    private static void faultOf(String text, int place) {
        CloseClocks x = new CloseClocks();
        Check.type(x, text);
        long before = x.digest();
        due("4 fault of " + text, x.fault(), place);
        due("4 fault alters nothing of " + text, x.digest(), before);
    }

    private static void fault() {
        String[] sound = {"", "2", "6", "2,", "2,0", "2,1", "2,01", "2,010", "2,013", "2,013,", "2,013,0", "2,013,1",
            "3,010,1", "3,010,20", "3,010,213", "4,010,020,030,0", "4,010,020,030,1", WHOLE};
        for (String text : sound) {
            faultOf(text, text.length());
        }
        String[] whole = {"0", "1", "7", "9", "a", " ", ",", "/"};
        for (String text : whole) {
            faultOf(text, 0);
            faultOf(text + ",010", 0);
        }
        faultOf("20", 1);
        faultOf("2 ,010", 1);
        faultOf("2;010", 1);
        faultOf("2,2", 2);
        faultOf("2,,", 2);
        faultOf("2,/10", 2);
        faultOf("6,6", 2);
        faultOf("6,:", 2);
        faultOf("2,00", 3);
        faultOf("2,11", 3);
        faultOf("2,02", 3);
        faultOf("6,06", 3);
        faultOf("5,05", 3);
        faultOf("2,0,", 3);
        faultOf("2,014", 4);
        faultOf("2,01/", 4);
        faultOf("2,01,", 4);
        faultOf("2,0100", 5);
        faultOf("2,010 ", 5);
        faultOf("2,013,01", 7);
        faultOf("2,013,10", 7);
        faultOf("3,103,012", 7);
        faultOf("3,120,010,21", 11);
        faultOf("3,010,4", 6);
        faultOf("3,010,124", 8);
        faultOf("4,010,020,030,01", 15);
        faultOf("4,010,020,030,30", 15);
        faultOf("4,010,020,030,00", 15);
        faultOf("4,010,9,9", 6);
    }

    private static void net() {
        String[] none = {"", "2", "2,", "2,0", "2,01", "2,010,", "3,010,1", "3,010,12", "7,010", "2,014", "2,00", "2,0100",
            "3,010,100", "3,010,011", " 2,010", "2,010 "};
        for (String text : none) {
            CloseClocks x = Check.withNet("3,012");
            Check.type(x, text);
            x.image();
            long before = x.digest();
            due("5 net of " + text, x.net(), STATE);
            due("5 nothing altered by " + text, x.digest(), before);
            due("5 letters of " + text, x.count(2), text.length());
            due("5 image stays with " + text, x.restore(), 0);
        }
        CloseClocks x = new CloseClocks();
        Check.type(x, "5,130,012");
        due("5 net", x.net(), 5);
        due("5 page", x.count(2), 0);
        due("5 page by blank", x.blank(), 0);
        due("5 nodes", x.count(0), 5);
        due("5 links", x.count(1), 2);
        due("5 delay", x.link(1, 0, 0), 2);
        due("5 delay", x.link(0, 1, 0), 2);
        due("5 delay", x.link(3, 1, 0), 0);
        Check.type(x, WHOLE);
        due("5 whole net", x.net(), 6);
        due("5 links of the whole", x.count(1), 15);
        due("5 neighbours in the whole", x.node(5, 3), 5);
        due("5 neighbours in the whole", x.node(1, 3), 5);
        due("5 last delay of the whole", x.link(5, 4, 0), 2);
        due("5 how often", x.count(7), 2);
    }

    private static void netForgets() {
        CloseClocks x = Check.withNet("3,013,122");
        x.set(0, 7);
        x.set(1, 8);
        x.rate(0, 91);
        x.wrong(0, 1, 5);
        x.put(1, 900);
        x.go(5);
        due("5 one is fast", x.node(0, 2), 1);
        x.image();
        Check.type(x, "2,010");
        due("5 another net", x.net(), 2);
        due("5 clock", x.node(0, 0), 0);
        due("5 clock", x.node(1, 0), 0);
        due("5 rate", x.node(0, 1), 100);
        due("5 fast", x.node(0, 2), 0);
        due("5 fast ticks", x.node(0, 8), 0);
        due("5 delay", x.link(0, 1, 0), 0);
        due("5 error", x.link(0, 1, 1), 0);
        due("5 guess of clocks ago", delayed(x, 3), 300);
        due("5 hops", x.hops(0, 1), 1);
        due("5 ticks", x.count(3), 0);
        due("5 ticks ever", x.count(8), 5);
        due("5 step stays", x.count(4), 7);
        due("5 boost stays", x.count(5), 8);
        due("5 none fast", x.count(6), 0);
        due("5 greatest local", x.skew(3), 0);
        due("5 image", x.restore(), STATE);
        due("5 node 2", x.node(2, 0), UNKNOWN);
        due("5 nets", x.count(7), 2);
    }

    private static int delayed(CloseClocks x, int delay) {
        x.delay(0, 1, delay);
        return x.link(0, 1, 2);
    }

    private static void set() {
        CloseClocks x = new CloseClocks();
        due("6 step", x.set(0, 500), 20);
        due("6 step", x.set(0, 1), 500);
        due("6 step", x.count(4), 1);
        due("6 boost", x.set(1, 60), 10);
        due("6 boost", x.set(1, 1), 60);
        due("6 boost", x.count(5), 1);
        refused("6 what", x, OUTSIDE, what -> x.set(what, 1), 2, 3, -1);
        refused("6 step", x, OUTSIDE, v -> x.set(0, v), 0, 501, -1);
        refused("6 boost", x, OUTSIDE, v -> x.set(1, v), 0, 61, 500, -1);
    }

    private static void rate() {
        CloseClocks x = Check.withNet("3,010");
        due("7 rate", x.rate(2, 90), 100);
        due("7 rate", x.rate(2, 110), 90);
        due("7 rate", x.node(2, 1), 110);
        due("7 rate of another", x.node(1, 1), 100);
        refused("7 node", x, UNKNOWN, node -> x.rate(node, 100), 3, 6, -1);
        refused("7 rate", x, OUTSIDE, v -> x.rate(0, v), 89, 111, -1);
        due("7 unknown ahead of outside", x.rate(3, 89), UNKNOWN);
        x.go(2);
        due("7 clock by rate", x.node(2, 0), 220);
    }

    private static void put() {
        CloseClocks x = Check.withNet("2,013");
        due("8 put", x.put(1, 1000000), 0);
        due("8 put", x.put(1, 0), 1000000);
        due("8 put", x.put(1, 400), 0);
        due("8 clock", x.node(1, 0), 400);
        due("8 put stands in place of 0", x.link(0, 1, 2), 700);
        x.rate(1, 90);
        x.go(2);
        due("8 clock grows", x.node(1, 0), 580);
        due("8 put counts ahead of all ticks", x.link(0, 1, 2), 700);
        x.go(1);
        due("8 clock three ticks ago", x.link(0, 1, 2), 700);
        x.go(1);
        due("8 clock behind the first tick", x.link(0, 1, 2), 790);
        due("8 put later", x.put(1, 50), 760);
        due("8 put counts as what it was", x.link(0, 1, 2), 350);
        due("8 put leaves the other", x.link(1, 0, 2), 410);
        due("8 ticks stay", x.count(3), 4);
        refused("8 node", x, UNKNOWN, node -> x.put(node, 1), 2, 6, -1);
        refused("8 clock", x, OUTSIDE, v -> x.put(0, v), 1000001, -1);
        due("8 unknown ahead of outside", x.put(2, -1), UNKNOWN);
        due("8 greatest local is of ticks only", withPut().skew(3), 0);
    }

    private static CloseClocks withPut() {
        CloseClocks x = Check.withNet("2,010");
        x.put(0, 777);
        return x;
    }

    private static void wrong() {
        CloseClocks x = Check.withNet("4,120,231");
        due("9 error", x.wrong(1, 2, -9), 0);
        due("9 error", x.wrong(1, 2, 9), -9);
        due("9 error", x.link(1, 2, 1), 9);
        due("9 error of the other", x.link(2, 1, 1), 0);
        due("9 guess", x.link(1, 2, 2), 9);
        due("9 guess", x.link(2, 1, 2), 0);
        due("9 error", x.wrong(2, 1, -3), 0);
        due("9 guess", x.link(2, 1, 2), -3);
        refused("9 node", x, UNKNOWN, node -> x.wrong(node, 2, 1), 0, 2, 4, 6, -1);
        refused("9 other", x, UNKNOWN, other -> x.wrong(1, other, 1), 0, 1, 3, 4, 6, -1);
        refused("9 error", x, OUTSIDE, v -> x.wrong(1, 2, v), -10, 10);
        due("9 unknown ahead of outside", x.wrong(1, 3, 10), UNKNOWN);
    }

    private static void delay() {
        CloseClocks x = Check.withNet("4,120,231");
        due("10 delay", x.delay(1, 2, 3), 0);
        due("10 delay both ways", x.delay(2, 1, 2), 3);
        due("10 delay none", x.delay(2, 1, 0), 2);
        due("10 delay none", x.delay(2, 1, 2), 0);
        due("10 delay", x.link(1, 2, 0), 2);
        due("10 delay", x.link(2, 1, 0), 2);
        due("10 delay of another link", x.link(2, 3, 0), 1);
        due("10 guess", x.link(2, 1, 2), 200);
        x.go(3);
        due("10 guess of one tick ago", x.delay(1, 2, 1), 2);
        due("10 guess of one tick ago", x.link(1, 2, 2), 320);
        refused("10 node", x, UNKNOWN, node -> x.delay(node, 2, 1), 0, 2, 4, 6, -1);
        refused("10 other", x, UNKNOWN, other -> x.delay(1, other, 1), 0, 1, 3, 4, 6, -1);
        refused("10 delay", x, OUTSIDE, v -> x.delay(1, 2, v), -1, 4);
        due("10 unknown ahead of outside", x.delay(1, 3, 4), UNKNOWN);
    }

    private static void go() {
        CloseClocks x = Check.withNet("3,010");
        due("11 go", x.go(100), 0);
        due("11 clock", x.node(0, 0), 10000);
        due("11 clock without neighbours", x.node(2, 0), 10000);
        due("11 ticks", x.count(3), 100);
        x.rate(0, 95);
        due("11 local", x.go(1), 5);
        due("11 local", x.go(2), 15);
        refused("11 go", x, OUTSIDE, x::go, 0, 101, -1);
    }

    private static void goUpToItsLimit() {
        CloseClocks x = Check.withNet("2,010");
        x.go(50);
        due("11 image", x.image(), 50);
        for (int i = 0; i < 89; i++) {
            x.go(100);
        }
        due("11 ticks", x.count(3), 8950);
        due("11 more than 9000", x.go(51), STATE);
        due("11 outside ahead of state", x.go(101), OUTSIDE);
        due("11 no tick went by", x.node(0, 0), 895000);
        due("11 just 9000", x.go(50), 0);
        due("11 ticks", x.count(3), 9000);
        due("11 more than 9000", x.go(1), STATE);
        due("11 worst goes on", x.worst(12, 0) > 0 ? 1 : 0, 1);
        due("11 ticks ever", x.count(8), 9000);
        due("11 restore", x.restore(), 50);
        due("11 room again", x.go(100), 0);
        due("11 ticks", x.count(3), 150);
        due("11 ticks ever", x.count(8), 9100);
        Check.type(x, "2,010");
        x.net();
        due("11 room in another net", x.go(100), 0);
        due("11 ticks ever", x.count(8), 9200);
    }

    private static void goTriggers() {
        CloseClocks x = Check.withNet("2,010");
        x.go(1);
        due("11 all by how it was ahead", x.node(1, 2), 0);
        x.put(0, 20);
        x.put(1, 0);
        int[] skews = {10, 0, 10, 20, 20, 20};
        int[] firsts = {120, 220, 320, 420, 530, 640};
        for (int i = 0; i < skews.length; i++) {
            due("11 local behind tick " + i, x.go(1), skews[i]);
            due("11 clock behind tick " + i, x.node(0, 0), firsts[i]);
        }
        due("11 fast", x.node(1, 2), 1);
        due("11 fast ticks", x.node(1, 8), 6);
        due("11 fast ticks", x.node(0, 8), 2);
        x.put(1, 680);
        due("11 down makes slow", x.go(1), 30);
        due("11 slow", x.node(1, 2), 0);
        due("11 fast ticks", x.node(1, 8), 6);
        due("11 clock of the slow", x.node(1, 0), 780);
        due("11 clock of the fast", x.node(0, 0), 750);
        x.set(1, 60);
        due("11 boost as it is told", x.go(1), 30);
        due("11 boost as it is told", x.node(0, 0), 910);
    }

    private static void node() {
        CloseClocks x = Check.withNet("4,011,120");
        x.rate(1, 107);
        x.put(0, 130);
        x.put(1, 200);
        x.put(2, 190);
        x.wrong(1, 2, -4);
        due("12 clock", x.node(1, 0), 200);
        due("12 rate", x.node(1, 1), 107);
        due("12 fast", x.node(1, 2), 0);
        due("12 neighbours", x.node(1, 3), 2);
        due("12 neighbours", x.node(0, 3), 1);
        due("12 ahead", x.node(1, 4), 30);
        due("12 behind", x.node(1, 5), 14);
        due("12 ahead below 0", x.node(0, 5), -170);
        due("12 up", x.node(1, 6), 0);
        due("12 down", x.node(1, 7), NONE);
        due("12 fast ticks", x.node(1, 8), 0);
        x.go(1);
        due("12 fast", x.node(1, 2), 1);
        due("12 fast ticks", x.node(1, 8), 1);
        due("12 clock", x.node(1, 0), 317);
        int[] lone = {100, 100, 0, 0, NONE, NONE, NONE, NONE, 0};
        for (int what = 0; what <= 8; what++) {
            due("12 without neighbours " + what, x.node(3, what), lone[what]);
        }
        refused("12 node", x, UNKNOWN, node -> x.node(node, 0), 4, 6, -1);
        refused("12 what", x, OUTSIDE, what -> x.node(0, what), 9, -1);
        due("12 unknown ahead of outside", x.node(4, 9), UNKNOWN);
    }

    /** A node in the midst whose neighbours are so far ahead and behind. */
    private static void levelsOf(int step, int ahead, int behind, int up, int down) {
        CloseClocks x = Check.withNet("3,010,120");
        x.set(0, step);
        x.put(0, 5000 + ahead);
        x.put(1, 5000);
        x.put(2, 5000 - behind);
        String where = "12 levels of " + step + ", " + ahead + ", " + behind;
        due(where + " ahead", x.node(1, 4), Math.max(ahead, -behind));
        due(where + " behind", x.node(1, 5), Math.max(behind, -ahead));
        due(where + " up", x.node(1, 6), up);
        due(where + " down", x.node(1, 7), down);
        x.go(1);
        due(where + " fast", x.node(1, 2), up == NONE ? 0 : 1);
    }

    private static void nodeLevels() {
        CloseClocks x = Check.withNet("3,010,120");
        x.put(1, 100);
        due("12 up of the first", x.node(0, 6), 0);
        due("12 up of the second", x.node(1, 6), NONE);
        due("12 down of the first", x.node(0, 7), NONE);
        due("12 down of the second", x.node(1, 7), 1);
        due("12 down of the third", x.node(2, 7), NONE);
        due("12 up of the third", x.node(2, 6), 0);
        levelsOf(20, 0, 0, NONE, NONE);
        levelsOf(20, 19, 0, NONE, NONE);
        levelsOf(20, 20, 0, 0, NONE);
        levelsOf(20, 20, 20, 0, NONE);
        levelsOf(20, 20, 21, NONE, NONE);
        levelsOf(20, 39, 39, NONE, NONE);
        levelsOf(20, 40, 40, NONE, 1);
        levelsOf(20, 0, 40, NONE, 1);
        levelsOf(20, 40, 39, NONE, NONE);
        levelsOf(20, 41, 40, NONE, NONE);
        levelsOf(20, 60, 60, 1, NONE);
        levelsOf(20, 59, 60, NONE, NONE);
        levelsOf(20, 100, 60, 1, NONE);
        levelsOf(20, 100, 61, 2, NONE);
        levelsOf(20, 99, 61, NONE, NONE);
        levelsOf(20, 100, 101, NONE, NONE);
        levelsOf(20, 100, 120, NONE, 3);
        levelsOf(20, 80, 80, NONE, 2);
        levelsOf(20, 81, 119, NONE, NONE);
        levelsOf(20, 81, 120, NONE, 3);
        levelsOf(20, -50, 100, NONE, 1);
        levelsOf(20, -50, 50, NONE, 1);
        levelsOf(20, 100, -50, 0, NONE);
        levelsOf(1, 2001, 2001, 1000, NONE);
        levelsOf(1, 2000, 2000, NONE, 1000);
        levelsOf(500, 499, 499, NONE, NONE);
        levelsOf(500, 500, 500, 0, NONE);
        levelsOf(500, 1000, 1000, NONE, 1);
    }

    private static void link() {
        CloseClocks x = Check.withNet("4,012,120");
        x.wrong(0, 1, 6);
        x.put(1, 40);
        due("13 delay", x.link(0, 1, 0), 2);
        due("13 delay", x.link(1, 0, 0), 2);
        due("13 error", x.link(0, 1, 1), 6);
        due("13 error", x.link(1, 0, 1), 0);
        due("13 guess", x.link(0, 1, 2), 246);
        due("13 guess", x.link(1, 0, 2), 200);
        due("13 skew", x.link(0, 1, 3), 40);
        due("13 skew", x.link(1, 0, 3), 40);
        x.rate(0, 101);
        x.go(3);
        due("13 clock two ticks ago", x.link(1, 0, 2), 311);
        refused("13 node", x, UNKNOWN, node -> x.link(node, 1, 0), 1, 3, 4, 6, -1);
        refused("13 other", x, UNKNOWN, other -> x.link(0, other, 0), 0, 2, 3, 4, 6, -1);
        refused("13 what", x, OUTSIDE, what -> x.link(0, 1, what), 4, -1);
        due("13 unknown ahead of outside", x.link(0, 2, 4), UNKNOWN);
    }

    private static void hops() {
        CloseClocks x = Check.withNet("6,520,240,430,013");
        int[][] due = {
            {0, 1, NONE, NONE, NONE, NONE},
            {1, 0, NONE, NONE, NONE, NONE},
            {NONE, NONE, 0, 2, 1, 1},
            {NONE, NONE, 2, 0, 1, 3},
            {NONE, NONE, 1, 1, 0, 2},
            {NONE, NONE, 1, 3, 2, 0}};
        for (int v = 0; v < 6; v++) {
            for (int w = 0; w < 6; w++) {
                due("14 hops " + v + ", " + w, x.hops(v, w), due[v][w]);
            }
        }
        due("14 the longest way", Check.withNet("6,500,010,120,230,340").hops(5, 4), 5);
        due("14 the shorter way", Check.withNet("6,500,010,120,230,340,450").hops(5, 3), 2);
        due("14 to the first", Check.withNet("3,120,010").hops(2, 0), 2);
        due("14 from the first", Check.withNet("3,120,010").hops(0, 2), 2);
        refused("14 node", x, UNKNOWN, node -> x.hops(node, 0), 6, -1);
        refused("14 other", x, UNKNOWN, other -> x.hops(0, other), 6, -1);
        due("14 the same, but unknown", x.hops(6, 6), UNKNOWN);
    }

    private static void skew() {
        CloseClocks x = Check.withNet("4,010,120");
        x.put(0, 100);
        x.put(1, 40);
        x.put(3, 500);
        due("15 local", x.skew(0), 60);
        due("15 global", x.skew(1), 500);
        due("15 level", x.skew(2), 1);
        x.put(0, 101);
        due("15 level", x.skew(2), 2);
        x.put(0, 60);
        due("15 local", x.skew(0), 40);
        x.put(1, 60);
        x.put(2, 40);
        due("15 level 0", x.skew(2), 0);
        due("15 greatest without ticks", x.skew(3), 0);
        x.rate(0, 90);
        x.rate(1, 110);
        x.set(0, 500);
        due("15 local", x.go(3), 60);
        due("15 greatest", x.skew(3), 60);
        x.put(0, 0);
        x.put(1, 0);
        x.put(2, 0);
        due("15 local", x.skew(0), 0);
        due("15 greatest stays", x.skew(3), 60);
        due("15 local", x.go(1), 20);
        due("15 greatest stays", x.skew(3), 60);
        refused("15 what", x, OUTSIDE, x::skew, 4, -1);
        due("15 greatest in the midst of a go", withPeak().skew(3), 110);
        CloseClocks even = Check.withNet("3,010");
        even.go(5);
        due("15 global of none apart", even.skew(1), 0);
        even.put(0, 499);
        due("15 global by the first", even.skew(1), 1);
    }

    /** Skew 120 at first, 110 behind the first tick, less behind the others. */
    private static CloseClocks withPeak() {
        CloseClocks x = Check.withNet("2,010");
        x.put(0, 120);
        x.go(5);
        return x;
    }

    private static void spread() {
        CloseClocks x = Check.withNet("5,010,120,230");
        x.put(0, 10);
        x.put(1, 30);
        x.put(2, 5);
        x.put(3, 100);
        x.put(4, 9000);
        due("16 by 1", x.spread(1), 95);
        due("16 by 2", x.spread(2), 70);
        due("16 by 3", x.spread(3), 90);
        due("16 by 4", x.spread(4), NONE);
        due("16 by 5", x.spread(5), NONE);
        refused("16 h", x, OUTSIDE, x::spread, 0, 6, -1);
        due("16 none so far differ", Check.withNet("3,010,120").spread(2), 0);
        CloseClocks way = Check.withNet("6,500,010,120,230,340");
        way.put(4, 3);
        due("16 by 5", way.spread(5), 3);
    }

    private static void worst() {
        CloseClocks x = Check.withNet("2,010");
        long before = x.digest();
        int[] due = {20, 30, 40, 50};
        for (int n = 1; n <= 4; n++) {
            due("17 how much by " + n, x.worst(n, 0), due[n - 1]);
            due("17 the least set by " + n, x.worst(n, 1), 1);
        }
        due("17 nothing is altered", x.digest(), before);
        x.put(1, 1);
        due("17 how much", x.worst(1, 0), 21);
        due("17 by which", x.worst(1, 1), 2);
        x.put(1, 700);
        x.put(0, 1700);
        due("17 how much of those far apart", x.worst(1, 0), 1010);
        due("17 by which of those far apart", x.worst(1, 1), 1);
        x.rate(0, 91);
        due("17 the rates told do not matter", x.worst(1, 0), 1010);
        due("17 the rates told stay", x.node(0, 1), 91);
        due("17 the longest", x.worst(12, 0), 1120);
        refused("17 n", x, OUTSIDE, n -> x.worst(n, 0), 0, 13, -1);
        refused("17 what", x, OUTSIDE, what -> x.worst(1, what), 2, -1);
        CloseClocks lone = Check.withNet("4,130");
        due("17 nodes without neighbours are left out", lone.worst(1, 1), 2);
        CloseClocks wide = Check.withNet("6,450");
        wide.put(5, 1);
        due("17 the highest bit", wide.worst(1, 1), 32);
        CloseClocks calm = Check.withNet("2,010");
        calm.set(0, 40);
        calm.set(1, 60);
        calm.put(0, 39);
        due("17 how much by none", calm.worst(2, 0), 39);
        due("17 by none", calm.worst(2, 1), 0);
        CloseClocks late = Check.withNet("2,011");
        late.put(0, 1000);
        late.put(1, 1119);
        due("17 guesses are late", late.worst(1, 0), 129);
        late.wrong(1, 0, 9);
        late.put(1, 1088);
        due("17 guesses are a little wrong", late.worst(1, 0), 108);
        late.wrong(1, 0, 7);
        due("17 guesses are less wrong", late.worst(1, 0), 98);
    }

    private static void image() {
        CloseClocks x = Check.withNet("2,013");
        due("18 image", x.image(), 0);
        x.go(7);
        due("18 image", x.image(), 7);
        long before = x.digest();
        due("18 image again", x.image(), 7);
        due("18 nothing is altered", x.digest(), before);
        x.go(1);
        due("18 the latest is kept", x.restore(), 7);
        due("18 as it was but for ticks ever", x.digest(), before + 1);
    }

    private static void restore() {
        CloseClocks x = Check.withNet("3,013,121");
        due("19 none kept", x.restore(), STATE);
        x.rate(0, 110);
        x.rate(2, 93);
        x.wrong(0, 1, 4);
        x.delay(1, 2, 2);
        x.put(1, 300);
        x.go(9);
        x.set(0, 33);
        x.set(1, 44);
        x.image();
        Check.type(x, "2,");
        long before = x.digest();
        x.rate(0, 90);
        x.wrong(0, 1, -4);
        x.wrong(2, 1, 9);
        x.delay(0, 1, 0);
        x.delay(1, 2, 0);
        x.put(2, 100000);
        x.put(0, 5);
        due("19 greatest is altered", x.go(2) > 90000 ? 1 : 0, 1);
        due("19 restore", x.restore(), 9);
        due("19 all is as it was but for ticks ever", x.digest(), before + 2);
        x.go(4);
        x.put(1, 1);
        due("19 restore again", x.restore(), 9);
        due("19 all is as it was but for ticks ever", x.digest(), before + 6);
        x.set(0, 21);
        x.set(1, 22);
        x.letter('0');
        x.restore();
        due("19 step is not of the image", x.count(4), 21);
        due("19 boost is not of the image", x.count(5), 22);
        due("19 the page is not of the image", x.count(2), 3);
        due("19 nor how often a net was read", x.count(7), 1);
        int[] once = onward(x);
        x.restore();
        int[] again = onward(x);
        for (int i = 0; i < once.length; i++) {
            due("19 it goes on the same way " + i, again[i], once[i]);
        }
        x.blank();
        Check.type(x, "3,013,121");
        x.net();
        due("19 none was kept of this net", x.restore(), STATE);
    }

    /** What follows from the clocks of ticks ago. */
    private static int[] onward(CloseClocks x) {
        return new int[] {x.link(0, 1, 2), x.go(1), x.link(0, 1, 2), x.go(1), x.link(2, 1, 2), x.go(1), x.link(1, 0, 2)};
    }

    private static void count() {
        CloseClocks x = Check.withNet("4,010,122");
        x.set(0, 30);
        x.set(1, 5);
        x.put(0, 100);
        x.go(3);
        x.image();
        x.go(2);
        x.restore();
        Check.type(x, "xyz");
        int[] due = {4, 2, 3, 3, 30, 5, 2, 1, 5};
        for (int what = 0; what <= 8; what++) {
            due("20 count " + what, x.count(what), due[what]);
        }
        refused("20 what", x, OUTSIDE, x::count, 9, -1);
        x.put(0, 0);
        x.put(1, 400);
        x.put(2, 601);
        x.go(1);
        due("20 the first is fast too", x.count(6), 3);
    }

    private static void digest() {
        CloseClocks x = Check.withNet("5,421,302,010,041,230");
        x.rate(3, 104);
        x.wrong(4, 2, 7);
        x.wrong(0, 3, -2);
        x.put(2, 55);
        x.go(6);
        Check.type(x, "3,0~ ");
        due("21 digest", x.digest(), digestByCalls(x, "0-1 0-3 0-4 2-3 2-4", "3,0~ "));
        due("21 digest again", x.digest(), digestByCalls(x, "0-1 0-3 0-4 2-3 2-4", "3,0~ "));
        due("21 digest without a net", new CloseClocks().digest(), mixed(1663, 0, 0, 0, 0, 20, 10, 0, 0, 0));
    }

    private static long digestByCalls(CloseClocks x, String pairs, String page) {
        long h = 1663;
        for (int v = 0; v < x.count(0); v++) {
            for (int what = 0; what <= 8; what++) {
                h = mixed(h, x.node(v, what));
            }
        }
        for (String pair : pairs.split(" ")) {
            int v = pair.charAt(0) - '0';
            int w = pair.charAt(2) - '0';
            h = mixed(h, x.link(v, w, 0), x.link(v, w, 1), x.link(v, w, 2), x.link(v, w, 3));
            h = mixed(h, x.link(w, v, 0), x.link(w, v, 1), x.link(w, v, 2), x.link(w, v, 3));
        }
        h = mixed(h, x.skew(0), x.skew(1), x.skew(2), x.skew(3));
        h = mixed(h, x.spread(1), x.spread(2), x.spread(3), x.spread(4), x.spread(5));
        h = mixed(h, x.worst(3, 0), x.worst(3, 1));
        for (char sign : page.toCharArray()) {
            h = mixed(h, sign);
        }
        for (int what = 0; what <= 8; what++) {
            h = mixed(h, x.count(what));
        }
        return h;
    }
}
