import java.io.IOException;
import java.nio.file.Files;
import java.nio.file.Path;
import java.util.TreeSet;
import java.util.function.IntFunction;
import java.util.function.Supplier;

/**
 * What the edge tests share. Each test holds the class to some words of the document, which it
 * quotes, on new objects of its own; one that asks nothing, or whose words the document does not
 * have, fails too.
 */
final class Edges {
    static final int NONE = -100000001;
    static final int UNKNOWN = -100000002;
    static final int OUTSIDE = -100000003;
    static final int STATE = -100000004;
    static final int FULL = -100000005;
    /** The longest of all nets: it fills the page. */
    static final String WHOLE = "6,010,021,032,043,050,121,132,143,150,231,242,253,340,351,452";

    private final String document = documentOnOneLine();
    private final TreeSet<Integer> promises = new TreeSet<>();
    private String label = "";
    private int tests = 0;
    private int failedTests = 0;
    private int asked = 0;
    private int wrong = 0;

    /** A call with all its numbers. */
    interface Call {
        long on(CloseClocks x);
    }

    /** A call of a node and another one. */
    interface CallOfTwo {
        Call of(int node, int other);
    }

    private static String documentOnOneLine() {
        try {
            return onOneLine(Files.readString(Path.of("../shared/DOC.md")));
        } catch (IOException gone) {
            throw new IllegalStateException("the document cannot be read", gone);
        }
    }

    private static String onOneLine(String text) {
        return text.replaceAll("\\s+", " ");
    }

    /** Runs one test of one promise under the words that it is for. */
    void hold(int promise, String words, Runnable test) {
        label = "promise " + promise + " [" + words + "]";
        asked = 0;
        wrong = 0;
        try {
            test.run();
        } catch (RuntimeException thrown) {
            fail("threw " + thrown);
        }
        if (asked == 0) {
            fail("asked nothing");
        }
        if (!document.contains(onOneLine(words))) {
            fail("the document has no such words");
        }
        tests++;
        failedTests += wrong == 0 ? 0 : 1;
        promises.add(promise);
    }

    private void fail(String what) {
        wrong++;
        System.out.println(label + ": " + what);
    }

    void due(String what, long got, long want) {
        asked++;
        if (got != want) {
            fail(what + " answered " + got + ", due is " + want);
        }
    }

    void dueAll(String what, long[] got, long... want) {
        due(what + ", how many", got.length, want.length);
        for (int i = 0; i < Math.min(got.length, want.length); i++) {
            due(what + ", number " + i, got[i], want[i]);
        }
    }

    /** Ends with exit code 1, if a test failed or a promise of these had none. */
    void end(int firstPromise, int lastPromise) {
        label = "all";
        for (int promise = firstPromise; promise <= lastPromise; promise++) {
            if (!promises.contains(promise)) {
                fail("no test of promise " + promise);
                failedTests++;
            }
        }
        System.out.println(tests + " edges looked at, " + failedTests + " do not hold");
        if (failedTests != 0) {
            System.exit(1);
        }
    }

    /** The call is refused so, and the object goes on as one that was never asked. */
    void refused(String what, Supplier<CloseClocks> maker, int answer, Call call) {
        CloseClocks x = maker.get();
        due(what, call.on(x), answer);
        due(what + ", refused, alters nothing", future(x), future(maker.get()));
    }

    void taken(String what, Supplier<CloseClocks> maker, Call call) {
        long answer = call.on(maker.get());
        boolean refusal = answer == UNKNOWN || answer == OUTSIDE || answer == STATE || answer == FULL;
        due(what + ", answered " + answer + ", is refused", refusal ? 1 : 0, 0);
    }

    /** The least and the most are taken; all beyond them is refused, also what has the same low bits. */
    void bounds(String what, Supplier<CloseClocks> maker, int answer, int least, int most, IntFunction<Call> call) {
        int[] beyond = {least - 1, most + 1, least - 256, most + 256, least - 65536, most + 65536, least + (1 << 24),
            Integer.MIN_VALUE, Integer.MIN_VALUE + least, Integer.MAX_VALUE, Integer.MAX_VALUE - most, NONE};
        for (int number : beyond) {
            refused(what + " " + number, maker, answer, call.apply(number));
        }
        taken(what + " " + least, maker, call.apply(least));
        taken(what + " " + most, maker, call.apply(most));
    }

    /** Of busy() only those with a link are taken, whichever of both comes first. */
    void onlyNeighbours(String what, CallOfTwo call) {
        int[] numbers = {Integer.MIN_VALUE, -65535, -1, 0, 1, 2, 3, 4, 5, 6, 257, Integer.MAX_VALUE};
        for (int node : numbers) {
            for (int other : numbers) {
                String of = what + " of " + node + " and " + other;
                boolean fit = node >= 0 && other >= 0 && node <= 2 && other <= 2 && Math.abs(node - other) == 1;
                if (fit) {
                    taken(of, Edges::busy, call.of(node, other));
                } else {
                    refused(of, Edges::busy, UNKNOWN, call.of(node, other));
                }
            }
        }
    }

    /** Links 0-1 and 1-2, none of 3; nothing is as at first, nor as in the image, and a text is begun. */
    static CloseClocks busy() {
        CloseClocks x = Check.withNet("4,013,122");
        x.set(0, 7);
        x.set(1, 9);
        x.rate(0, 110);
        x.rate(2, 93);
        x.wrong(0, 1, 4);
        x.wrong(2, 1, -5);
        x.put(1, 300);
        x.go(5);
        x.image();
        x.rate(1, 91);
        x.rate(3, 104);
        x.wrong(1, 0, -2);
        x.delay(1, 2, 1);
        x.put(2, 450);
        x.go(3);
        Check.type(x, "2,01");
        return x;
    }

    /** A net whose clocks go by their rates alone, as no skew of a short run reaches such a step. */
    static CloseClocks calm(String net) {
        CloseClocks x = Check.withNet(net);
        x.set(0, 500);
        return x;
    }

    /** Two nodes, and no tick more may go by. */
    static CloseClocks atLastTick() {
        CloseClocks x = Check.withNet("2,013");
        for (int i = 0; i < 90; i++) {
            x.go(100);
        }
        return x;
    }

    /** All that can be seen of an object from now on: as it is, by its image, in ticks, with its text. */
    static long future(CloseClocks x) {
        long h = seen(x);
        h = mix(h, x.restore());
        h = mix(h, seen(x));
        for (int i = 0; i < 3; i++) {
            h = mix(h, x.go(1));
            h = mix(h, seen(x));
        }
        h = mix(h, x.letter('0'));
        h = mix(h, x.net());
        return mix(h, seen(x));
    }

    private static long seen(CloseClocks x) {
        long h = mix(x.digest(), x.fault());
        int nodes = x.count(0);
        for (int v = 0; v < nodes; v++) {
            for (int w = v + 1; w < nodes; w++) {
                h = x.hops(v, w) == 1 ? mix(h, seenByDelays(x, v, w)) : h;
            }
        }
        return h;
    }

    /** The clocks of ticks ago show only by a delay; it is put back. */
    private static long seenByDelays(CloseClocks x, int v, int w) {
        int was = x.link(v, w, 0);
        long h = was;
        for (int delay = 0; delay <= 3; delay++) {
            x.delay(v, w, delay);
            h = mix(mix(h, x.link(v, w, 2)), x.link(w, v, 2));
        }
        x.delay(v, w, was);
        return h;
    }

    private static long mix(long h, long number) {
        return (h ^ h >>> 29) * 1000003 + number;
    }

    static long[] counts(CloseClocks x) {
        long[] all = new long[9];
        for (int what = 0; what <= 8; what++) {
            all[what] = x.count(what);
        }
        return all;
    }

    static long[] node(CloseClocks x, int v) {
        long[] all = new long[9];
        for (int what = 0; what <= 8; what++) {
            all[what] = x.node(v, what);
        }
        return all;
    }

    /** What node 0 of two takes node 1 to have, by the delays 0 to 3. */
    static long[] guesses(CloseClocks x) {
        long[] all = new long[4];
        for (int delay = 0; delay <= 3; delay++) {
            x.delay(0, 1, delay);
            all[delay] = x.link(0, 1, 2);
        }
        return all;
    }
}
