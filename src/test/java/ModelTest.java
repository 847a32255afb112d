import java.util.Random;

/** Long runs of calls by a fixed seed, each answer held against PlainModel's. */
public final class ModelTest {
    private static final int RUNS = 150;
    private static final int CALLS = 512;
    private static final int[] EDGES = {Integer.MIN_VALUE, -100000001, -1, 0, 1, 2, 3, 4, 5, 6, 7, 8, 9, 12, 13, 61, 89, 90, 100,
        101, 110, 111, 500, 501, 1000000, 1000001, Integer.MAX_VALUE};

    private final Check check;
    private final Random random;
    private final CloseClocks x = new CloseClocks();
    private final PlainModel model = new PlainModel();
    private String name = "";

    private ModelTest(Check check, long seed) {
        this.check = check;
        this.random = new Random(seed);
        this.name = "run " + seed;
    }

    public static void main(String[] args) {
        Check check = new Check();
        for (int seed = 1; seed <= RUNS && check.wrong() == 0; seed++) {
            new ModelTest(check, seed).run();
        }
        check.end();
    }

    private void run() {
        int calls = 0;
        while (calls < CALLS && check.wrong() == 0) {
            if (calls == 0 || random.nextInt(60) == 0) {
                calls += type(random.nextInt(5) == 0 ? spoiled(text()) : text());
                due("fault()", x.fault(), model.fault());
                due("net()", x.net(), model.net());
                calls += 2;
            } else {
                call();
                calls++;
            }
        }
    }

    private void due(String call, long got, long want) {
        check.due(name + ": " + call, got, want);
    }

    private int any(int least, int most) {
        if (random.nextInt(25) == 0) {
            return EDGES[random.nextInt(EDGES.length)];
        }
        return least + random.nextInt(most - least + 1);
    }

    private int anyNode() {
        return any(0, random.nextInt(10) == 0 ? 6 : Math.max(1, model.count(0) - 1));
    }

    private String text() {
        int nodes = 2 + random.nextInt(5);
        StringBuilder text = new StringBuilder().append(nodes);
        boolean[] taken = new boolean[36];
        int links = 1 + random.nextInt(nodes * (nodes - 1) / 2);
        for (int tries = 0; tries < 3 * links; tries++) {
            int v = random.nextInt(nodes);
            int w = random.nextInt(nodes);
            if (v != w && !taken[6 * v + w]) {
                taken[6 * v + w] = true;
                taken[6 * w + v] = true;
                text.append(',').append(v).append(w).append(random.nextInt(4));
            }
        }
        return text.toString();
    }

    private String spoiled(String text) {
        int place = random.nextInt(text.length());
        String signs = "0123456789,, :/~";
        char sign = signs.charAt(random.nextInt(signs.length()));
        return text.substring(0, place) + sign + text.substring(place + random.nextInt(2));
    }

    private int type(String text) {
        if (random.nextInt(10) != 0) {
            due("blank()", x.blank(), model.blank());
        }
        for (int code : text.toCharArray()) {
            due("letter(" + code + ")", x.letter(code), model.letter(code));
        }
        return text.length() + 1;
    }

    private void call() {
        int node = anyNode();
        int other = anyNode();
        switch (random.nextInt(24)) {
            case 0: tell("letter", any(32, 126)); break;
            case 1: due("fault()", x.fault(), model.fault()); break;
            case 2: step(any(0, 1)); break;
            case 3: case 4: rate(node, any(90, 110)); break;
            case 5: put(node, any(0, random.nextInt(3) == 0 ? 1000000 : 2000)); break;
            case 6: near(node); break;
            case 7: case 8: wrong(node, other, any(-9, 9)); break;
            case 9: delay(node, other, any(0, 3)); break;
            case 10: case 11: case 12: tell("go", any(1, random.nextInt(4) == 0 ? 100 : 6)); break;
            case 13: case 14: case 15: node(node, any(0, 8)); break;
            case 16: link(node, other, any(0, 3)); break;
            case 17: due("hops " + node + " " + other, x.hops(node, other), model.hops(node, other)); break;
            case 18: tell("skew", any(0, 3)); break;
            case 19: tell("spread", any(1, 5)); break;
            case 20: worst(any(1, 12), any(0, 1)); break;
            case 21: imageOrRestore(); break;
            case 22: tell("count", any(0, 8)); break;
            default: due("digest()", x.digest(), model.digest()); break;
        }
    }

    private void tell(String call, int v) {
        String text = call + "(" + v + ")";
        switch (call) {
            case "letter": due(text, x.letter(v), model.letter(v)); break;
            case "go": due(text, x.go(v), model.go(v)); break;
            case "skew": due(text, x.skew(v), model.skew(v)); break;
            case "spread": due(text, x.spread(v), model.spread(v)); break;
            default: due(text, x.count(v), model.count(v)); break;
        }
    }

    private void step(int what) {
        int v = any(1, what == 0 ? 500 : 60);
        due("set(" + what + ", " + v + ")", x.set(what, v), model.set(what, v));
    }

    private void rate(int node, int v) {
        due("rate(" + node + ", " + v + ")", x.rate(node, v), model.rate(node, v));
    }

    private void put(int node, int v) {
        due("put(" + node + ", " + v + ")", x.put(node, v), model.put(node, v));
    }

    /** A clock that differs from another one by about a level's bound, or all of them alike. */
    private void near(int node) {
        int by = (random.nextInt(7) - 3) * model.count(4) + random.nextInt(3) - 1;
        int base = Math.max(0, Math.min(1000000, model.node(0, 0)));
        for (int v = 0; v < model.count(0); v++) {
            put(v, v == node ? Math.max(0, Math.min(1000000, base + by)) : base);
        }
    }

    private void wrong(int node, int other, int v) {
        due("wrong(" + node + ", " + other + ", " + v + ")", x.wrong(node, other, v), model.wrong(node, other, v));
    }

    private void delay(int node, int other, int v) {
        due("delay(" + node + ", " + other + ", " + v + ")", x.delay(node, other, v), model.delay(node, other, v));
    }

    private void node(int node, int what) {
        due("node(" + node + ", " + what + ")", x.node(node, what), model.node(node, what));
    }

    private void link(int node, int other, int what) {
        due("link(" + node + ", " + other + ", " + what + ")", x.link(node, other, what), model.link(node, other, what));
    }

    private void worst(int n, int what) {
        due("worst(" + n + ", " + what + ")", x.worst(n, what), model.worst(n, what));
    }

    private void imageOrRestore() {
        if (random.nextInt(3) == 0) {
            due("image()", x.image(), model.image());
        } else {
            due("restore()", x.restore(), model.restore());
        }
    }
}
