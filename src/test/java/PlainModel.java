import java.util.ArrayList;
import java.util.Arrays;
import java.util.List;
import java.util.TreeMap;

/**
 * The document's terms once more, as slow and as near to its words as can be: whole histories,
 * levels by trying them all, links by name. ModelTest holds the class against it.
 */
final class PlainModel {
    static final int NONE = -100000001;
    static final int UNKNOWN = -100000002;
    static final int OUTSIDE = -100000003;
    static final int STATE = -100000004;
    static final int FULL = -100000005;

    private String page = "";
    private int step = 20;
    private int boost = 10;
    private int reads = 0;
    private int ever = 0;
    private Told told = new Told();
    private Told image = null;

    /** What an image keeps. */
    private static final class Told {
        int nodes = 0;
        int ticks = 0;
        int greatest = 0;
        // By "vw": from both sides.
        TreeMap<String, Integer> delays = new TreeMap<>();
        TreeMap<String, Integer> errors = new TreeMap<>();
        // Of each node its clock ahead of all ticks, then behind each one.
        List<List<Integer>> clocks = new ArrayList<>();
        List<Integer> before = new ArrayList<>();
        List<Integer> rates = new ArrayList<>();
        List<Boolean> fast = new ArrayList<>();
        List<Integer> fastTicks = new ArrayList<>();

        Told copy() {
            Told t = new Told();
            t.nodes = nodes;
            t.ticks = ticks;
            t.greatest = greatest;
            t.delays.putAll(delays);
            t.errors.putAll(errors);
            for (List<Integer> row : clocks) {
                t.clocks.add(new ArrayList<>(row));
            }
            t.before.addAll(before);
            t.rates.addAll(rates);
            t.fast.addAll(fast);
            t.fastTicks.addAll(fastTicks);
            return t;
        }

        boolean linked(int v, int w) {
            return delays.containsKey("" + v + w);
        }

        int clock(int v, int ago) {
            List<Integer> row = clocks.get(v);
            return ago < row.size() ? row.get(row.size() - 1 - ago) : before.get(v);
        }

        int guess(int v, int w) {
            int delay = delays.get("" + v + w);
            return clock(w, delay) + 100 * delay + errors.get("" + v + w);
        }

        Integer ahead(int v) {
            Integer most = null;
            for (int w = 0; w < nodes; w++) {
                if (linked(v, w) && (most == null || guess(v, w) - clock(v, 0) > most)) {
                    most = guess(v, w) - clock(v, 0);
                }
            }
            return most;
        }

        Integer behind(int v) {
            Integer most = null;
            for (int w = 0; w < nodes; w++) {
                if (linked(v, w) && (most == null || clock(v, 0) - guess(v, w) > most)) {
                    most = clock(v, 0) - guess(v, w);
                }
            }
            return most;
        }

        Integer up(int v, int step) {
            if (ahead(v) == null) {
                return null;
            }
            int ahead = ahead(v);
            int behind = behind(v);
            for (int s = 0; (2 * s + 1) * step <= ahead; s++) {
                if (behind <= (2 * s + 1) * step) {
                    return s;
                }
            }
            return null;
        }

        Integer down(int v, int step) {
            if (ahead(v) == null) {
                return null;
            }
            int ahead = ahead(v);
            int behind = behind(v);
            for (int s = 1; 2 * s * step <= behind; s++) {
                if (ahead <= 2 * s * step) {
                    return s;
                }
            }
            return null;
        }

        void tick(int step, int boost) {
            List<Boolean> next = new ArrayList<>();
            for (int v = 0; v < nodes; v++) {
                boolean up = up(v, step) != null;
                boolean down = down(v, step) != null;
                if (up && down) {
                    throw new IllegalStateException("both up and down");
                }
                next.add(up || !down && fast.get(v));
            }
            fast = next;
            for (int v = 0; v < nodes; v++) {
                clocks.get(v).add(clock(v, 0) + rates.get(v) + (fast.get(v) ? boost : 0));
                fastTicks.set(v, fastTicks.get(v) + (fast.get(v) ? 1 : 0));
            }
            ticks++;
            greatest = Math.max(greatest, local());
        }

        int skew(int v, int w) {
            return Math.abs(clock(v, 0) - clock(w, 0));
        }

        int local() {
            return widest(1);
        }

        /** Over how few links, by ever more of them; none: NONE. */
        int hops(int v, int w) {
            boolean[] reached = new boolean[nodes];
            reached[v] = true;
            for (int h = 0; h < nodes; h++) {
                if (reached[w]) {
                    return h;
                }
                boolean[] more = Arrays.copyOf(reached, nodes);
                for (int a = 0; a < nodes; a++) {
                    for (int b = 0; b < nodes; b++) {
                        more[b] |= reached[a] && linked(a, b);
                    }
                }
                reached = more;
            }
            return NONE;
        }

        /** The greatest skew of two by so many hops, or with 0 of any two. */
        int widest(int h) {
            int most = NONE;
            for (int v = 0; v < nodes; v++) {
                for (int w = 0; w < nodes; w++) {
                    if (v != w && (h == 0 || (h == 1 ? linked(v, w) : hops(v, w) == h))) {
                        most = Math.max(most, skew(v, w));
                    }
                }
            }
            return most;
        }
    }

    private boolean known(int v) {
        return v >= 0 && v < told.nodes;
    }

    private boolean linked(int v, int w) {
        return known(v) && known(w) && told.linked(v, w);
    }

    private static boolean within(int v, int least, int most) {
        return v >= least && v <= most;
    }

    private static int or(Integer v) {
        return v == null ? NONE : v;
    }

    int letter(int code) {
        if (!within(code, 32, 126)) {
            return OUTSIDE;
        }
        if (page.length() == 61) {
            return FULL;
        }
        page += (char) code;
        return page.length();
    }

    int blank() {
        int had = page.length();
        page = "";
        return had;
    }

    /** Which letters may follow a text that is no fault so far. */
    private static String following(String text) {
        if (text.isEmpty()) {
            return "23456";
        }
        int comma = text.lastIndexOf(',');
        String link = comma < 0 ? "---" : text.substring(comma + 1);
        String digits = "012345".substring(0, text.charAt(0) - '0');
        switch (link.length()) {
            case 0: return digits;
            case 1:
                String left = digits.replace(link, "");
                for (String earlier : text.substring(0, comma).split(",")) {
                    if (earlier.length() == 3 && earlier.charAt(0) == link.charAt(0)) {
                        left = left.replace(earlier.substring(1, 2), "");
                    }
                    if (earlier.length() == 3 && earlier.charAt(1) == link.charAt(0)) {
                        left = left.replace(earlier.substring(0, 1), "");
                    }
                }
                return left;
            case 2: return "0123";
            default: return ",";
        }
    }

    int fault() {
        int place = 0;
        while (place < page.length() && following(page.substring(0, place)).indexOf(page.charAt(place)) >= 0) {
            place++;
        }
        return place;
    }

    int net() {
        if (fault() < page.length() || !page.matches(".(,...)+")) {
            return STATE;
        }
        told = new Told();
        told.nodes = page.charAt(0) - '0';
        for (int v = 0; v < told.nodes; v++) {
            told.clocks.add(new ArrayList<>(List.of(0)));
            told.before.add(0);
            told.rates.add(100);
            told.fast.add(false);
            told.fastTicks.add(0);
        }
        for (String link : page.substring(2).split(",")) {
            String back = "" + link.charAt(1) + link.charAt(0);
            told.delays.put(link.substring(0, 2), link.charAt(2) - '0');
            told.delays.put(back, link.charAt(2) - '0');
            told.errors.put(link.substring(0, 2), 0);
            told.errors.put(back, 0);
        }
        image = null;
        page = "";
        reads++;
        return told.nodes;
    }

    int set(int what, int v) {
        if (what == 0 && within(v, 1, 500)) {
            int was = step;
            step = v;
            return was;
        }
        if (what == 1 && within(v, 1, 60)) {
            int was = boost;
            boost = v;
            return was;
        }
        return OUTSIDE;
    }

    int rate(int node, int v) {
        return !known(node) ? UNKNOWN : !within(v, 90, 110) ? OUTSIDE : told.rates.set(node, v);
    }

    int put(int node, int v) {
        if (!known(node)) {
            return UNKNOWN;
        }
        if (!within(v, 0, 1000000)) {
            return OUTSIDE;
        }
        int was = told.clock(node, 0);
        told.clocks.get(node).replaceAll(clock -> v);
        told.before.set(node, v);
        return was;
    }

    int wrong(int node, int other, int v) {
        return !linked(node, other) ? UNKNOWN : !within(v, -9, 9) ? OUTSIDE : told.errors.put("" + node + other, v);
    }

    int delay(int node, int other, int v) {
        if (!linked(node, other)) {
            return UNKNOWN;
        }
        if (!within(v, 0, 3)) {
            return OUTSIDE;
        }
        told.delays.put("" + other + node, v);
        return told.delays.put("" + node + other, v);
    }

    int go(int n) {
        if (!within(n, 1, 100)) {
            return OUTSIDE;
        }
        if (told.nodes == 0 || told.ticks + n > 9000) {
            return STATE;
        }
        for (int i = 0; i < n; i++) {
            told.tick(step, boost);
            ever++;
        }
        return told.local();
    }

    int node(int node, int what) {
        if (!known(node)) {
            return UNKNOWN;
        }
        int degree = 0;
        for (int w = 0; w < told.nodes; w++) {
            degree += told.linked(node, w) ? 1 : 0;
        }
        switch (what) {
            case 0: return told.clock(node, 0);
            case 1: return told.rates.get(node);
            case 2: return told.fast.get(node) ? 1 : 0;
            case 3: return degree;
            case 4: return or(told.ahead(node));
            case 5: return or(told.behind(node));
            case 6: return or(told.up(node, step));
            case 7: return or(told.down(node, step));
            case 8: return told.fastTicks.get(node);
            default: return OUTSIDE;
        }
    }

    int link(int node, int other, int what) {
        if (!linked(node, other)) {
            return UNKNOWN;
        }
        switch (what) {
            case 0: return told.delays.get("" + node + other);
            case 1: return told.errors.get("" + node + other);
            case 2: return told.guess(node, other);
            case 3: return told.skew(node, other);
            default: return OUTSIDE;
        }
    }

    int hops(int node, int other) {
        return known(node) && known(other) ? told.hops(node, other) : UNKNOWN;
    }

    int skew(int what) {
        if (!within(what, 0, 3)) {
            return OUTSIDE;
        }
        if (told.nodes == 0) {
            return STATE;
        }
        int level = 0;
        while (told.local() > (2 * level + 1) * step) {
            level++;
        }
        return new int[] {told.local(), told.widest(0), level, told.greatest}[what];
    }

    int spread(int h) {
        return !within(h, 1, 5) ? OUTSIDE : told.nodes == 0 ? STATE : told.widest(h);
    }

    int worst(int n, int what) {
        if (!within(n, 1, 12) || !within(what, 0, 1)) {
            return OUTSIDE;
        }
        if (told.nodes == 0) {
            return STATE;
        }
        int most = -1;
        int by = -1;
        for (int members = (1 << told.nodes) - 1; members >= 0; members--) {
            Told t = lately(told);
            for (int v = 0; v < t.nodes; v++) {
                t.rates.set(v, (members & 1 << v) != 0 ? 110 : 90);
            }
            for (int i = 0; i < n; i++) {
                t.tick(step, boost);
            }
            if (t.local() >= most) {
                most = t.local();
                by = members;
            }
        }
        return what == 0 ? most : by;
    }

    /** A copy without the clocks that no delay reaches, for long histories. */
    private static Told lately(Told whole) {
        List<List<Integer>> clocks = whole.clocks;
        whole.clocks = new ArrayList<>();
        Told t = whole.copy();
        whole.clocks = clocks;
        for (List<Integer> row : clocks) {
            t.clocks.add(new ArrayList<>(row.subList(Math.max(0, row.size() - 4), row.size())));
        }
        return t;
    }

    int image() {
        if (told.nodes == 0) {
            return STATE;
        }
        image = told.copy();
        return told.ticks;
    }

    int restore() {
        if (image == null) {
            return STATE;
        }
        told = image.copy();
        return told.ticks;
    }

    int count(int what) {
        switch (what) {
            case 0: return told.nodes;
            case 1: return told.delays.size() / 2;
            case 2: return page.length();
            case 3: return told.ticks;
            case 4: return step;
            case 5: return boost;
            case 6: return (int) told.fast.stream().filter(fast -> fast).count();
            case 7: return reads;
            case 8: return ever;
            default: return OUTSIDE;
        }
    }

    long digest() {
        List<Integer> numbers = new ArrayList<>();
        for (int v = 0; v < told.nodes; v++) {
            for (int what = 0; what <= 8; what++) {
                numbers.add(node(v, what));
            }
        }
        for (String pair : told.delays.keySet()) {
            int v = pair.charAt(0) - '0';
            int w = pair.charAt(1) - '0';
            for (int i = 0; v < w && i < 8; i++) {
                numbers.add(i < 4 ? link(v, w, i) : link(w, v, i - 4));
            }
        }
        if (told.nodes > 0) {
            for (int what = 0; what <= 3; what++) {
                numbers.add(skew(what));
            }
            for (int h = 1; h <= 5; h++) {
                numbers.add(spread(h));
            }
            numbers.add(worst(3, 0));
            numbers.add(worst(3, 1));
        }
        page.chars().forEach(numbers::add);
        for (int what = 0; what <= 8; what++) {
            numbers.add(count(what));
        }
        long h = 1663;
        for (int number : numbers) {
            h = 31 * h + number;
        }
        return h;
    }
}
