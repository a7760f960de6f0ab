import java.lang.reflect.Method;
import java.lang.reflect.Modifier;
import java.util.Arrays;
import java.util.HashMap;
import java.util.Map;
import java.util.Random;

/**
 * Long runs of calls from fixed seeds, each answer held against that of the Model. No object is asked
 * more often than the document promises.
 */
public final class RandomRunsTest {
    private static final int RUNS = 600;
    private static final int CALLS = 512;

    /** How often a call comes, and what its arguments are. */
    private static final String[] CALLS_TOLD = {
        "3 star kind", "2 is star kind", "4 mark star kind", "3 row star", "60 lay star night light",
        "3 at star night", "3 light star night", "1 tear star", "6 copy star night star night n",
        "3 foot night footing", "2 footing night", "1 level", "3 levelOf star", "3 mean star",
        "2 phase night p q", "5 string star p q", "1 period star q from to",
        "1 asWell star q from to h", "4 depth star p l f", "1 dip star p l", "2 dipOf what",
        "3 lows star d", "3 low star d i", "3 turn star d i night p q", "3 late star d i night p q",
        "3 bent star d i night p q", "2 rule measure low high clas", "3 classOf star", "2 watch",
        "2 alarms", "1 count what", "1 finding", "1 findings what", "1 digest"};

    private final Random random;
    private final int span;
    private final ChangingStars stars = new ChangingStars();
    private final Model model = new Model();

    private RandomRunsTest(int seed) {
        random = new Random(seed);
        // A small span makes many lights alike.
        span = new int[] {4, 30, 400, 10000}[seed % 4];
    }

    public static void main(String[] args) throws ReflectiveOperationException {
        Map<String, Method> ofClass = methods(ChangingStars.class);
        Map<String, Method> ofModel = methods(Model.class);
        Map<String, Integer> sane = new HashMap<>();
        for (int seed = 0; seed < RUNS; seed++) {
            new RandomRunsTest(seed).run(seed, ofClass, ofModel, sane);
        }
        for (String told : CALLS_TOLD) {
            String name = told.split(" ")[1];
            Check.dueTrue(name + " was answered often", sane.getOrDefault(name, 0) > 50);
        }
        Check.end();
    }

    private static Map<String, Method> methods(Class<?> type) {
        Map<String, Method> methods = new HashMap<>();
        for (Method m : type.getDeclaredMethods()) {
            if (!Modifier.isPrivate(m.getModifiers()) && !m.isSynthetic()) {
                methods.put(m.getName(), m);
            }
        }
        return methods;
    }

    private void run(int seed, Map<String, Method> ofClass, Map<String, Method> ofModel,
            Map<String, Integer> sane) throws ReflectiveOperationException {
        // One call more at the end, and two at times behind a call.
        for (int n = 0; n < CALLS - 3; n++) {
            String[] told = n < 8 ? CALLS_TOLD[n % 2 * 3].split(" ") : choose();
            Object[] args = arguments(told);
            String call = "run " + seed + ", call " + n + ": " + told[1] + Arrays.toString(args);
            long got = ((Number) ofClass.get(told[1]).invoke(stars, args)).longValue();
            long want = ((Number) ofModel.get(told[1]).invoke(model, args)).longValue();
            Check.due(call, got, want);
            if (random.nextInt(3) == 0) {
                Check.due("asked() behind " + call, stars.asked(), model.asked());
                Check.due("finding() behind " + call, stars.finding(), model.finding());
                n += 2;
            }
            if (want >= 0 || told.length == 2) {
                sane.merge(told[1], 1, Integer::sum);
            }
        }
        Check.due("run " + seed + ": digest()", stars.digest(), model.digest());
    }

    private String[] choose() {
        int sum = 0;
        for (String told : CALLS_TOLD) {
            sum += Integer.parseInt(told.split(" ")[0]);
        }
        int at = random.nextInt(sum);
        for (String told : CALLS_TOLD) {
            at -= Integer.parseInt(told.split(" ")[0]);
            if (at < 0) {
                return told.split(" ");
            }
        }
        throw new IllegalStateException();
    }

    private Object[] arguments(String[] told) {
        Object[] args = new Object[told.length - 2];
        for (int k = 0; k < args.length; k++) {
            args[k] = random.nextInt(60) == 0 ? odd() : argument(told[k + 2], args, k);
        }
        return args;
    }

    private int odd() {
        int[] odd = {-1, -9, 0, 1, 12, 30, 31, 59, 60, 61, 100, 101, 599, 600, 601, 10000, 10001,
            -10000, -10001, Integer.MAX_VALUE, Integer.MIN_VALUE};
        return odd[random.nextInt(odd.length)];
    }

    private int between(int low, int high) {
        return low + random.nextInt(high - low + 1);
    }

    private int argument(String what, Object[] args, int k) {
        int small = random.nextInt(2);
        switch (what) {
            case "kind": return between(0, 3);
            case "star": return Math.min(between(0, 4), Math.max(0, model.count(0) - small));
            case "night": return between(0, 59);
            case "light": return random.nextInt(8) == 0 ? -9 : Math.min(10000, between(0, span));
            case "n": return between(-1, 25);
            case "footing": return between(-span, span);
            case "p": return small == 0 ? between(2, 20) : between(1, 600);
            case "q": return small == 0 ? 1 : between(1, 60);
            case "from": return small == 0 ? between(1, 10) : between(1, 590);
            case "to": return Math.max(1, Math.min(600, (int) args[k - 1] + between(0, 30)));
            case "h": return between(0, 100);
            case "l": return between(1, small == 0 ? 5 : 30);
            case "f": return between(0, small == 0 ? 5 : 59);
            case "d": return small == 0 ? between(1, 100) : between(1, Math.min(10000, span));
            case "i": return between(0, 4);
            case "what": return between(0, 5);
            case "measure": return between(0, 3);
            case "low": return between(-10, span);
            case "high": return (int) args[k - 1] + between(0, 200);
            case "clas": return between(0, 9);
            default: throw new IllegalStateException(what);
        }
    }
}
