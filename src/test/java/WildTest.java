import java.lang.reflect.InvocationTargetException;
import java.lang.reflect.Method;
import java.lang.reflect.Modifier;
import java.util.List;
import java.util.Set;
import java.util.function.Supplier;

/**
 * Every call of the face with the most unlike numbers, in every kind of state. None may throw; a
 * refused one alters nothing, and one that only asks alters nothing, whatever it answers.
 */
public final class WildTest {
    private static final int[] WILD = {Integer.MIN_VALUE, Integer.MIN_VALUE + 1, -100000001, -65536, -10, -1, 0, 1, 2, 3, 5, 6,
        8, 9, 12, 32, 60, 90, 100, 126, 500, 1000000, 65536, 1 << 30, Integer.MAX_VALUE - 1, Integer.MAX_VALUE};
    private static final Set<String> ONLY_ASK =
        Set.of("fault", "node", "link", "hops", "skew", "spread", "worst", "count", "digest");
    // So many calls on one object, as the document promises nothing behind the 512th.
    private static final int CALLS = 100;
    private static final Check CHECK = new Check();

    private final String name;
    private final Supplier<CloseClocks> maker;
    private final long untouched;
    private CloseClocks x;
    private int calls = 0;

    private WildTest(String name, Supplier<CloseClocks> maker) {
        this.name = name;
        this.maker = maker;
        this.untouched = Edges.future(maker.get());
        this.x = maker.get();
    }

    public static void main(String[] args) throws IllegalAccessException {
        new WildTest("new", CloseClocks::new).run();
        new WildTest("a text begun", () -> typed("6,01")).run();
        new WildTest("a wrong text", () -> typed("~~~")).run();
        new WildTest("a full page", () -> typed(Edges.WHOLE)).run();
        new WildTest("the least net", () -> Check.withNet("2,100")).run();
        new WildTest("the greatest net", () -> Check.withNet(Edges.WHOLE)).run();
        new WildTest("a net, an image, a text", Edges::busy).run();
        new WildTest("no tick left", Edges::atLastTick).run();
        CHECK.end();
    }

    private static CloseClocks typed(String text) {
        CloseClocks x = new CloseClocks();
        Check.type(x, text);
        return x;
    }

    private void run() throws IllegalAccessException {
        for (Method method : CloseClocks.class.getDeclaredMethods()) {
            if (Modifier.isPublic(method.getModifiers())) {
                callWithAll(method);
                renew(method.getName());
            }
        }
    }

    private void callWithAll(Method method) throws IllegalAccessException {
        int places = method.getParameterCount();
        int ways = 1;
        for (int i = 0; i < places; i++) {
            ways *= WILD.length;
        }
        for (int way = 0; way < ways; way++) {
            Integer[] given = new Integer[places];
            int rest = way;
            for (int i = 0; i < places; i++) {
                given[i] = WILD[rest % WILD.length];
                rest /= WILD.length;
            }
            call(method, given);
        }
    }

    private void call(Method method, Integer[] given) throws IllegalAccessException {
        String call = name + ": " + method.getName() + List.of(given);
        try {
            long answer = ((Number) method.invoke(x, (Object[]) given)).longValue();
            calls++;
            if (!ONLY_ASK.contains(method.getName()) && !isRefusal(answer)) {
                x = maker.get();
                calls = 0;
            }
        } catch (InvocationTargetException thrown) {
            CHECK.due(call + " threw " + thrown.getCause(), 1, 0);
        }
        if (calls >= CALLS) {
            renew(call);
        }
    }

    private static boolean isRefusal(long answer) {
        return answer == CloseClocks.UNKNOWN || answer == CloseClocks.OUTSIDE || answer == CloseClocks.STATE
            || answer == CloseClocks.FULL;
    }

    /** All calls since the last renewal altered nothing: then the object goes on as one never asked. */
    private void renew(String last) {
        CHECK.due(name + ": goes on, up to " + last, Edges.future(x), untouched);
        x = maker.get();
        calls = 0;
    }
}
